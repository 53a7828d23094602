theorem ok_M_takes_84_w {l : Launch} {rv : Int} {rσ : pS} {G : Nat → pL → List pV → pS → Prop} (H : px_R l 1 162 rv rσ G) : ∀ (a1 : Int) (σ : pS), f_M_takes_84 a1 σ = some (rv, rσ) → G 0 [some (.inr 84), some (.inl a1)] [] σ := by
  intro a1 σ h
  unfold f_M_takes_84 at h
  refine H [((2, 0, 0, 0, []), 1), ((23, 144, 0, 1, [(0, 84)]), 3), ((1, 1, 0, 0, []), 1), ((13, 0, 18, 0, []), 3), ((2, 0, 0, 0, []), 1), ((0, 0, 0, 1, []), 1), ((2, 0, 0, 0, []), 1), ((16, 84, 19, 0, []), 3), ((23, 145, 2, 1, [(0, 84)]), 3), ((27, 1, 0, 0, []), 1)] 0 _ _ _ (by decide +kernel) ?_
  obtain ⟨⟨vq1, σq1⟩, hq1, h⟩ := px_bind h
  dsimp only at h
  refine Exists.intro 0 (Exists.intro vq1 (Exists.intro σq1 (And.intro (Nat.le_of_ble_eq_true rfl) (And.intro (ok_M_here_84 hq1) ?_))))
  rcases px_ite h with ⟨c2, h⟩ | ⟨c2, h⟩
  · refine And.intro (fun _ => ?_) (fun hn => absurd c2 hn)
    refine H [((2, 0, 0, 0, []), 1), ((2, 0, 0, 0, []), 1), ((16, 84, 19, 0, []), 3), ((0, 0, 0, 1, []), 1), ((6, 0, 0, 0, []), 1), ((18, 84, 19, 0, []), 3), ((0, 0, 0, 1, []), 1), ((27, 1, 0, 0, []), 1)] 18 _ _ _ (by decide +kernel) ?_
    refine And.intro (show (0 : Int) ≤ 1 ∧ (1 : Int) ≤ 1 from by decide) ?_
    exact Prod.mk.inj (Option.some.inj h)
  · refine And.intro (fun hp => absurd hp c2) (fun _ => ?_)
    obtain ⟨⟨vq3, σq3⟩, hq3, h⟩ := px_bind h
    dsimp only at h
    refine Exists.intro 0 (Exists.intro vq3 (Exists.intro σq3 (And.intro (Nat.le_of_ble_eq_true rfl) (And.intro (ok_M_wrongAt_84 hq3) ?_))))
    obtain ⟨g4, h⟩ := px_gd h
    refine And.intro g4 ?_
    exact Prod.mk.inj (Option.some.inj h)
theorem ok_M_takes_84 {l : Launch} {a1 : Int} {σ : pS} {v : Int} {σ1 : pS} (h : f_M_takes_84 a1 σ = some (v, σ1)) : Con l 1 162 [.inr 84, .inl a1] σ v σ1 := Con_mk 2 2 rfl (by decide +kernel) (fun _ H => ok_M_takes_84_w H _ _ h)
theorem ok_M_isDigit_84_w {l : Launch} {rv : Int} {rσ : pS} {G : Nat → pL → List pV → pS → Prop} (H : px_R l 1 149 rv rσ G) : ∀ (σ : pS), f_M_isDigit_84  σ = some (rv, rσ) → G 0 [some (.inr 84)] [] σ := by
  intro  σ h
  unfold f_M_isDigit_84 at h
  refine H [((2, 0, 0, 0, []), 1), ((23, 144, 0, 1, [(0, 84)]), 3), ((0, 0, 0, 48, []), 2), ((13, 2, 22, 0, []), 3), ((2, 0, 0, 0, []), 1), ((23, 144, 0, 1, [(0, 84)]), 3), ((0, 0, 0, 57, []), 2), ((13, 4, 22, 0, []), 3), ((0, 0, 0, 1, []), 1), ((12, 0, 23, 0, []), 3), ((27, 1, 0, 0, []), 1)] 0 _ _ _ (by decide +kernel) ?_
  obtain ⟨⟨vq1, σq1⟩, hq1, h⟩ := px_bind h
  dsimp only at h
  refine Exists.intro 0 (Exists.intro vq1 (Exists.intro σq1 (And.intro (Nat.le_of_ble_eq_true rfl) (And.intro (ok_M_here_84 hq1) ?_))))
  rcases px_ite h with ⟨c2, h⟩ | ⟨c2, h⟩
  · refine And.intro (fun _ => ?_) (fun hn => absurd c2 hn)
    refine H [((0, 0, 0, 0, []), 1), ((27, 1, 0, 0, []), 1)] 22 _ _ _ (by decide +kernel) ?_
    refine And.intro (show (0 : Int) ≤ 0 ∧ (0 : Int) ≤ 1 from by decide) ?_
    exact Prod.mk.inj (Option.some.inj h)
  · refine And.intro (fun hp => absurd hp c2) (fun _ => ?_)
    obtain ⟨⟨vq3, σq3⟩, hq3, h⟩ := px_bind h
    dsimp only at h
    refine Exists.intro 0 (Exists.intro vq3 (Exists.intro σq3 (And.intro (Nat.le_of_ble_eq_true rfl) (And.intro (ok_M_here_84 hq3) ?_))))
    rcases px_ite h with ⟨c4, h⟩ | ⟨c4, h⟩
    · refine And.intro (fun _ => ?_) (fun hn => absurd c4 hn)
      refine H [((0, 0, 0, 0, []), 1), ((27, 1, 0, 0, []), 1)] 22 _ _ _ (by decide +kernel) ?_
      refine And.intro (show (0 : Int) ≤ 0 ∧ (0 : Int) ≤ 1 from by decide) ?_
      exact Prod.mk.inj (Option.some.inj h)
    · refine And.intro (fun hp => absurd hp c4) (fun _ => ?_)
      refine And.intro (show (0 : Int) ≤ 1 ∧ (1 : Int) ≤ 1 from by decide) ?_
      exact Prod.mk.inj (Option.some.inj h)
theorem ok_M_isDigit_84 {l : Launch} {σ : pS} {v : Int} {σ1 : pS} (h : f_M_isDigit_84  σ = some (v, σ1)) : Con l 1 149 [.inr 84] σ v σ1 := Con_mk 1 1 rfl (by decide +kernel) (fun _ H => ok_M_isDigit_84_w H  _ h)
theorem ok_M_readsAmount_84_p27 {l : Launch} {rv : Int} {rσ : pS} {G : Nat → pL → List pV → pS → Prop} (H : px_R l 2 169 rv rσ G) : ∀ (n : Nat) (a1 : Int) (σ : pS), f_M_readsAmount_84_p27 n a1 σ = some (rv, rσ) → G 27 [some (.inr 84), some (.inl a1)] [] σ := by
  intro n
  induction n with
  | zero =>
    intro a1 σ h
    unfold f_M_readsAmount_84_p27 at h
    cases h
  | succ n ih =>
    intro a1 σ h
    unfold f_M_readsAmount_84_p27 at h
    refine H [((2, 0, 0, 0, []), 1), ((23, 149, 0, 1, [(0, 84)]), 3), ((14, 0, 86, 0, []), 3), ((2, 0, 0, 0, []), 1), ((16, 84, 19, 0, []), 3), ((1, 1, 0, 0, []), 1), ((0, 0, 0, 4, []), 1), ((6, 0, 0, 0, []), 1), ((13, 1, 54, 0, []), 3), ((2, 0, 0, 0, []), 1), ((0, 0, 0, 2, []), 1), ((2, 0, 0, 0, []), 1), ((16, 84, 19, 0, []), 3), ((23, 145, 2, 1, [(0, 84)]), 3), ((27, 1, 0, 0, []), 1)] 27 _ _ _ (by decide +kernel) ?_
    obtain ⟨⟨vq3, σq3⟩, hq3, h⟩ := px_bind h
    dsimp only at h
    refine Exists.intro 1 (Exists.intro vq3 (Exists.intro σq3 (And.intro (Nat.le_of_ble_eq_true rfl) (And.intro (ok_M_isDigit_84 hq3) ?_))))
    rcases px_ite h with ⟨c4, h⟩ | ⟨c4, h⟩
    · refine And.intro (fun _ => ?_) (fun hn => absurd c4 hn)
      refine H [((0, 0, 0, 1, []), 1), ((27, 1, 0, 0, []), 1)] 86 _ _ _ (by decide +kernel) ?_
      refine And.intro (show (0 : Int) ≤ 1 ∧ (1 : Int) ≤ 1 from by decide) ?_
      exact Prod.mk.inj (Option.some.inj h)
    · refine And.intro (fun hp => absurd hp c4) (fun _ => ?_)
      rcases px_ite h with ⟨c5, h⟩ | ⟨c5, h⟩
      · refine And.intro (fun hp => absurd c5 hp) (fun _ => ?_)
        obtain ⟨⟨vq7, σq7⟩, hq7, h⟩ := px_bind h
        dsimp only at h
        refine Exists.intro 0 (Exists.intro vq7 (Exists.intro σq7 (And.intro (Nat.le_of_ble_eq_true rfl) (And.intro (ok_M_wrongAt_84 hq7) ?_))))
        obtain ⟨g8, h⟩ := px_gd h
        refine And.intro g8 ?_
        exact Prod.mk.inj (Option.some.inj h)
      · refine And.intro (fun _ => ?_) (fun hn => absurd c5 hn)
        refine H [((2, 0, 0, 0, []), 1), ((0, 0, 0, 10, []), 2), ((2, 0, 0, 0, []), 1), ((16, 84, 22, 0, []), 3), ((6, 2, 0, 0, []), 1), ((2, 0, 0, 0, []), 1), ((23, 144, 0, 1, [(0, 84)]), 3), ((6, 0, 0, 0, []), 1), ((0, 0, 0, 48, []), 2), ((6, 1, 0, 0, []), 1), ((18, 84, 22, 0, []), 3), ((2, 0, 0, 0, []), 1), ((2, 0, 0, 0, []), 1), ((16, 84, 19, 0, []), 3), ((0, 0, 0, 1, []), 1), ((6, 0, 0, 0, []), 1), ((18, 84, 19, 0, []), 3), ((12, 0, 27, 0, []), 3)] 54 _ _ _ (by decide +kernel) ?_
        obtain ⟨⟨vq6, σq6⟩, hq6, h⟩ := px_bind h
        dsimp only at h
        refine Exists.intro 0 (Exists.intro vq6 (Exists.intro σq6 (And.intro (Nat.le_of_ble_eq_true rfl) (And.intro (ok_M_here_84 hq6) ?_))))
        exact ih _ _ h
theorem ok_M_readsAmount_84_w {l : Launch} {rv : Int} {rσ : pS} {G : Nat → pL → List pV → pS → Prop} (H : px_R l 2 169 rv rσ G) : ∀ (σ : pS), f_M_readsAmount_84  σ = some (rv, rσ) → G 0 [some (.inr 84), none] [] σ := by
  intro  σ h
  unfold f_M_readsAmount_84 at h
  refine H [((2, 0, 0, 0, []), 1), ((16, 84, 19, 0, []), 3), ((3, 1, 0, 0, []), 1), ((2, 0, 0, 0, []), 1), ((23, 149, 0, 1, [(0, 84)]), 3), ((14, 1, 22, 0, []), 3), ((2, 0, 0, 0, []), 1), ((0, 0, 0, 1, []), 1), ((2, 0, 0, 0, []), 1), ((16, 84, 19, 0, []), 3), ((23, 145, 2, 1, [(0, 84)]), 3), ((27, 1, 0, 0, []), 1)] 0 _ _ _ (by decide +kernel) ?_
  obtain ⟨⟨vq1, σq1⟩, hq1, h⟩ := px_bind h
  dsimp only at h
  refine Exists.intro 1 (Exists.intro vq1 (Exists.intro σq1 (And.intro (Nat.le_of_ble_eq_true rfl) (And.intro (ok_M_isDigit_84 hq1) ?_))))
  rcases px_ite h with ⟨c2, h⟩ | ⟨c2, h⟩
  · refine And.intro (fun hp => absurd c2 hp) (fun _ => ?_)
    obtain ⟨⟨vq9, σq9⟩, hq9, h⟩ := px_bind h
    dsimp only at h
    refine Exists.intro 0 (Exists.intro vq9 (Exists.intro σq9 (And.intro (Nat.le_of_ble_eq_true rfl) (And.intro (ok_M_wrongAt_84 hq9) ?_))))
    obtain ⟨g10, h⟩ := px_gd h
    refine And.intro g10 ?_
    exact Prod.mk.inj (Option.some.inj h)
  · refine And.intro (fun _ => ?_) (fun hn => absurd c2 hn)
    refine H [((2, 0, 0, 0, []), 1), ((0, 0, 0, 0, []), 1), ((18, 84, 22, 0, []), 3)] 22 _ _ _ (by decide +kernel) ?_
    exact ok_M_readsAmount_84_p27 H _ _ _ h
theorem ok_M_readsAmount_84 {l : Launch} {σ : pS} {v : Int} {σ1 : pS} (h : f_M_readsAmount_84  σ = some (v, σ1)) : Con l 2 169 [.inr 84] σ v σ1 := Con_mk 1 2 rfl (by decide +kernel) (fun _ H => ok_M_readsAmount_84_w H  _ h)
theorem ok_M_readsPlace_84_p56 {l : Launch} {rv : Int} {rσ : pS} {G : Nat → pL → List pV → pS → Prop} (H : px_R l 3 168 rv rσ G) : ∀ (a1 : Int) (σ : pS), f_M_readsPlace_84_p56 a1 σ = some (rv, rσ) → G 56 [some (.inr 84), some (.inl a1)] [] σ := by
  intro a1 σ h
  unfold f_M_readsPlace_84_p56 at h
  refine H [((2, 0, 0, 0, []), 1), ((23, 169, 0, 1, [(0, 84)]), 3), ((14, 1, 65, 0, []), 3), ((0, 0, 0, 0, []), 1), ((27, 1, 0, 0, []), 1)] 56 _ _ _ (by decide +kernel) ?_
  obtain ⟨⟨vq4, σq4⟩, hq4, h⟩ := px_bind h
  dsimp only at h
  refine Exists.intro 2 (Exists.intro vq4 (Exists.intro σq4 (And.intro (Nat.le_of_ble_eq_true rfl) (And.intro (ok_M_readsAmount_84 hq4) ?_))))
  rcases px_ite h with ⟨c5, h⟩ | ⟨c5, h⟩
  · refine And.intro (fun hp => absurd c5 hp) (fun _ => ?_)
    refine And.intro (show (0 : Int) ≤ 0 ∧ (0 : Int) ≤ 1 from by decide) ?_
    exact Prod.mk.inj (Option.some.inj h)
  · refine And.intro (fun _ => ?_) (fun hn => absurd c5 hn)
    refine H [((2, 0, 0, 0, []), 1), ((17, 84, 117, 0, []), 3), ((1, 1, 0, 0, []), 1), ((2, 0, 0, 0, []), 1), ((16, 84, 22, 0, []), 3), ((20, 117, 20, 0, []), 1), ((0, 0, 0, 1, []), 1), ((27, 1, 0, 0, []), 1)] 65 _ _ _ (by decide +kernel) ?_
    obtain ⟨g6, h⟩ := px_gd h
    refine And.intro g6 ?_
    refine And.intro (show (0 : Int) ≤ 1 ∧ (1 : Int) ≤ 1 from by decide) ?_
    exact Prod.mk.inj (Option.some.inj h)
theorem ok_M_readsPlace_84_w {l : Launch} {rv : Int} {rσ : pS} {G : Nat → pL → List pV → pS → Prop} (H : px_R l 3 168 rv rσ G) : ∀ (a1 : Int) (σ : pS), f_M_readsPlace_84 a1 σ = some (rv, rσ) → G 0 [some (.inr 84), some (.inl a1)] [] σ := by
  intro a1 σ h
  unfold f_M_readsPlace_84 at h
  refine H [((2, 0, 0, 0, []), 1), ((17, 84, 116, 0, []), 3), ((1, 1, 0, 0, []), 1), ((0, 0, 0, (-1), []), 1), ((20, 116, 20, 0, []), 1), ((2, 0, 0, 0, []), 1), ((23, 144, 0, 1, [(0, 84)]), 3), ((0, 0, 0, 114, []), 2), ((13, 1, 56, 0, []), 3), ((2, 0, 0, 0, []), 1), ((2, 0, 0, 0, []), 1), ((16, 84, 19, 0, []), 3), ((0, 0, 0, 1, []), 1), ((6, 0, 0, 0, []), 1), ((18, 84, 19, 0, []), 3), ((2, 0, 0, 0, []), 1), ((23, 167, 0, 1, [(0, 84)]), 3), ((14, 1, 35, 0, []), 3), ((0, 0, 0, 0, []), 1), ((27, 1, 0, 0, []), 1)] 0 _ _ _ (by decide +kernel) ?_
  obtain ⟨g1, h⟩ := px_gd h
  refine And.intro g1 ?_
  obtain ⟨⟨vq2, σq2⟩, hq2, h⟩ := px_bind h
  dsimp only at h
  refine Exists.intro 0 (Exists.intro vq2 (Exists.intro σq2 (And.intro (Nat.le_of_ble_eq_true rfl) (And.intro (ok_M_here_84 hq2) ?_))))
  rcases px_ite h with ⟨c3, h⟩ | ⟨c3, h⟩
  · refine And.intro (fun hp => absurd c3 hp) (fun _ => ?_)
    obtain ⟨⟨vq7, σq7⟩, hq7, h⟩ := px_bind h
    dsimp only at h
    refine Exists.intro 1 (Exists.intro vq7 (Exists.intro σq7 (And.intro (Nat.le_of_ble_eq_true rfl) (And.intro (ok_M_readsRegister_84 hq7) ?_))))
    rcases px_ite h with ⟨c8, h⟩ | ⟨c8, h⟩
    · refine And.intro (fun hp => absurd c8 hp) (fun _ => ?_)
      refine And.intro (show (0 : Int) ≤ 0 ∧ (0 : Int) ≤ 1 from by decide) ?_
      exact Prod.mk.inj (Option.some.inj h)
    · refine And.intro (fun _ => ?_) (fun hn => absurd c8 hn)
      refine H [((2, 0, 0, 0, []), 1), ((17, 84, 116, 0, []), 3), ((1, 1, 0, 0, []), 1), ((2, 0, 0, 0, []), 1), ((16, 84, 22, 0, []), 3), ((20, 116, 20, 0, []), 1), ((2, 0, 0, 0, []), 1), ((0, 0, 0, 43, []), 2), ((23, 162, 1, 1, [(0, 84)]), 3), ((14, 1, 56, 0, []), 3), ((0, 0, 0, 0, []), 1), ((27, 1, 0, 0, []), 1)] 35 _ _ _ (by decide +kernel) ?_
      obtain ⟨g9, h⟩ := px_gd h
      refine And.intro g9 ?_
      obtain ⟨⟨vq10, σq10⟩, hq10, h⟩ := px_bind h
      dsimp only at h
      refine Exists.intro 1 (Exists.intro vq10 (Exists.intro σq10 (And.intro (Nat.le_of_ble_eq_true rfl) (And.intro (ok_M_takes_84 hq10) ?_))))
      rcases px_ite h with ⟨c11, h⟩ | ⟨c11, h⟩
      · refine And.intro (fun hp => absurd c11 hp) (fun _ => ?_)
        refine And.intro (show (0 : Int) ≤ 0 ∧ (0 : Int) ≤ 1 from by decide) ?_
        exact Prod.mk.inj (Option.some.inj h)
      · refine And.intro (fun _ => ?_) (fun hn => absurd c11 hn)
        exact ok_M_readsPlace_84_p56 H _ _ h
  · refine And.intro (fun _ => ?_) (fun hn => absurd c3 hn)
    exact ok_M_readsPlace_84_p56 H _ _ h
theorem ok_M_readsPlace_84 {l : Launch} {a1 : Int} {σ : pS} {v : Int} {σ1 : pS} (h : f_M_readsPlace_84 a1 σ = some (v, σ1)) : Con l 3 168 [.inr 84, .inl a1] σ v σ1 := Con_mk 2 2 rfl (by decide +kernel) (fun _ H => ok_M_readsPlace_84_w H _ _ h)
theorem ok_M_readsOp_84_p177 {l : Launch} {rv : Int} {rσ : pS} {G : Nat → pL → List pV → pS → Prop} (H : px_R l 4 164 rv rσ G) : ∀ (a2 : Int) (σ : pS), f_M_readsOp_84_p177 a2 σ = some (rv, rσ) → G 177 [some (.inr 84), none, some (.inl a2)] [] σ := by
  intro a2 σ h
  unfold f_M_readsOp_84_p177 at h
  refine H [((2, 0, 0, 0, []), 1), ((1, 2, 0, 0, []), 1), ((23, 168, 1, 1, [(0, 84)]), 3), ((27, 1, 0, 0, []), 1)] 177 _ _ _ (by decide +kernel) ?_
  obtain ⟨⟨vq20, σq20⟩, hq20, h⟩ := px_bind h
  dsimp only at h
  refine Exists.intro 3 (Exists.intro vq20 (Exists.intro σq20 (And.intro (Nat.le_of_ble_eq_true rfl) (And.intro (ok_M_readsPlace_84 hq20) ?_))))
  obtain ⟨g21, h⟩ := px_gd h
  refine And.intro g21 ?_
  exact Prod.mk.inj (Option.some.inj h)
theorem ok_M_readsOp_84_p137 {l : Launch} {rv : Int} {rσ : pS} {G : Nat → pL → List pV → pS → Prop} (H : px_R l 4 164 rv rσ G) : ∀ (a1 a2 : Int) (σ : pS), f_M_readsOp_84_p137 a1 a2 σ = some (rv, rσ) → G 137 [some (.inr 84), some (.inl a1), some (.inl a2)] [] σ := by
  intro a1 a2 σ h
  unfold f_M_readsOp_84_p137 at h
  refine H [((2, 0, 0, 0, []), 1), ((23, 167, 0, 1, [(0, 84)]), 3), ((14, 1, 146, 0, []), 3), ((0, 0, 0, 0, []), 1), ((27, 1, 0, 0, []), 1)] 137 _ _ _ (by decide +kernel) ?_
  obtain ⟨⟨vq14, σq14⟩, hq14, h⟩ := px_bind h
  dsimp only at h
  refine Exists.intro 1 (Exists.intro vq14 (Exists.intro σq14 (And.intro (Nat.le_of_ble_eq_true rfl) (And.intro (ok_M_readsRegister_84 hq14) ?_))))
  rcases px_ite h with ⟨c15, h⟩ | ⟨c15, h⟩
  · refine And.intro (fun hp => absurd c15 hp) (fun _ => ?_)
    refine And.intro (show (0 : Int) ≤ 0 ∧ (0 : Int) ≤ 1 from by decide) ?_
    exact Prod.mk.inj (Option.some.inj h)
  · refine And.intro (fun _ => ?_) (fun hn => absurd c15 hn)
    refine H [((2, 0, 0, 0, []), 1), ((17, 84, 112, 0, []), 3), ((1, 2, 0, 0, []), 1), ((2, 0, 0, 0, []), 1), ((16, 84, 22, 0, []), 3), ((20, 112, 20, 0, []), 1), ((2, 0, 0, 0, []), 1), ((0, 0, 0, 44, []), 2), ((23, 162, 1, 1, [(0, 84)]), 3), ((14, 1, 167, 0, []), 3), ((0, 0, 0, 0, []), 1), ((27, 1, 0, 0, []), 1)] 146 _ _ _ (by decide +kernel) ?_
    obtain ⟨g16, h⟩ := px_gd h
    refine And.intro g16 ?_
    obtain ⟨⟨vq17, σq17⟩, hq17, h⟩ := px_bind h
    dsimp only at h
    refine Exists.intro 1 (Exists.intro vq17 (Exists.intro σq17 (And.intro (Nat.le_of_ble_eq_true rfl) (And.intro (ok_M_takes_84 hq17) ?_))))
    rcases px_ite h with ⟨c18, h⟩ | ⟨c18, h⟩
    · refine And.intro (fun hp => absurd c18 hp) (fun _ => ?_)
      refine And.intro (show (0 : Int) ≤ 0 ∧ (0 : Int) ≤ 1 from by decide) ?_
      exact Prod.mk.inj (Option.some.inj h)
    · refine And.intro (fun _ => ?_) (fun hn => absurd c18 hn)
      refine H [((1, 1, 0, 0, []), 1), ((0, 0, 0, 2, []), 1), ((13, 0, 177, 0, []), 3), ((1, 1, 0, 0, []), 1), ((0, 0, 0, 3, []), 1), ((13, 1, 183, 0, []), 3), ((29, 1, 0, 0, []), 0)] 167 _ _ _ (by decide +kernel) ?_
      rcases px_ite h with ⟨c19, h⟩ | ⟨c19, h⟩
      · refine And.intro (fun _ => ?_) (fun hn => absurd c19 hn)
        refine H [((29, 1, 0, 0, []), 0)] 177 _ _ _ (by decide +kernel) ?_
        exact ok_M_readsOp_84_p177 H _ _ h
      · refine And.intro (fun hp => absurd hp c19) (fun _ => ?_)
        rcases px_ite h with ⟨c22, h⟩ | ⟨c22, h⟩
        · refine And.intro (fun hp => absurd c22 hp) (fun _ => ?_)
          exact ok_M_readsOp_84_p177 H _ _ h
        · refine And.intro (fun _ => ?_) (fun hn => absurd c22 hn)
          refine H [((1, 1, 0, 0, []), 1), ((14, 1, 208, 0, []), 3), ((2, 0, 0, 0, []), 1), ((23, 169, 0, 1, [(0, 84)]), 3), ((14, 1, 196, 0, []), 3), ((0, 0, 0, 0, []), 1), ((27, 1, 0, 0, []), 1)] 183 _ _ _ (by decide +kernel) ?_
          rcases px_ite h with ⟨c23, h⟩ | ⟨c23, h⟩
          · refine And.intro (fun hp => absurd c23 hp) (fun _ => ?_)
            obtain ⟨⟨vq32, σq32⟩, hq32, h⟩ := px_bind h
            dsimp only at h
            refine Exists.intro 2 (Exists.intro vq32 (Exists.intro σq32 (And.intro (Nat.le_of_ble_eq_true rfl) (And.intro (ok_M_readsAmount_84 hq32) ?_))))
            rcases px_ite h with ⟨c33, h⟩ | ⟨c33, h⟩
            · refine And.intro (fun hp => absurd c33 hp) (fun _ => ?_)
              refine And.intro (show (0 : Int) ≤ 0 ∧ (0 : Int) ≤ 1 from by decide) ?_
              exact Prod.mk.inj (Option.some.inj h)
            · refine And.intro (fun _ => ?_) (fun hn => absurd c33 hn)
              refine H [((2, 0, 0, 0, []), 1), ((17, 84, 117, 0, []), 3), ((1, 2, 0, 0, []), 1), ((2, 0, 0, 0, []), 1), ((16, 84, 22, 0, []), 3), ((20, 117, 20, 0, []), 1), ((0, 0, 0, 1, []), 1), ((27, 1, 0, 0, []), 1)] 196 _ _ _ (by decide +kernel) ?_
              obtain ⟨g34, h⟩ := px_gd h
              refine And.intro g34 ?_
              refine And.intro (show (0 : Int) ≤ 1 ∧ (1 : Int) ≤ 1 from by decide) ?_
              exact Prod.mk.inj (Option.some.inj h)
          · refine And.intro (fun _ => ?_) (fun hn => absurd c23 hn)
            refine H [((2, 0, 0, 0, []), 1), ((23, 167, 0, 1, [(0, 84)]), 3), ((14, 1, 217, 0, []), 3), ((0, 0, 0, 0, []), 1), ((27, 1, 0, 0, []), 1)] 208 _ _ _ (by decide +kernel) ?_
            obtain ⟨⟨vq24, σq24⟩, hq24, h⟩ := px_bind h
            dsimp only at h
            refine Exists.intro 1 (Exists.intro vq24 (Exists.intro σq24 (And.intro (Nat.le_of_ble_eq_true rfl) (And.intro (ok_M_readsRegister_84 hq24) ?_))))
            rcases px_ite h with ⟨c25, h⟩ | ⟨c25, h⟩
            · refine And.intro (fun hp => absurd c25 hp) (fun _ => ?_)
              refine And.intro (show (0 : Int) ≤ 0 ∧ (0 : Int) ≤ 1 from by decide) ?_
              exact Prod.mk.inj (Option.some.inj h)
            · refine And.intro (fun _ => ?_) (fun hn => absurd c25 hn)
              refine H [((2, 0, 0, 0, []), 1), ((17, 84, 113, 0, []), 3), ((1, 2, 0, 0, []), 1), ((2, 0, 0, 0, []), 1), ((16, 84, 22, 0, []), 3), ((20, 113, 20, 0, []), 1), ((2, 0, 0, 0, []), 1), ((0, 0, 0, 44, []), 2), ((23, 162, 1, 1, [(0, 84)]), 3), ((14, 0, 243, 0, []), 3), ((2, 0, 0, 0, []), 1), ((23, 167, 0, 1, [(0, 84)]), 3), ((14, 1, 245, 0, []), 3), ((0, 0, 0, 0, []), 1), ((27, 1, 0, 0, []), 1)] 217 _ _ _ (by decide +kernel) ?_
              obtain ⟨g26, h⟩ := px_gd h
              refine And.intro g26 ?_
              obtain ⟨⟨vq27, σq27⟩, hq27, h⟩ := px_bind h
              dsimp only at h
              refine Exists.intro 1 (Exists.intro vq27 (Exists.intro σq27 (And.intro (Nat.le_of_ble_eq_true rfl) (And.intro (ok_M_takes_84 hq27) ?_))))
              rcases px_ite h with ⟨c28, h⟩ | ⟨c28, h⟩
              · refine And.intro (fun _ => ?_) (fun hn => absurd c28 hn)
                refine H [((0, 0, 0, 0, []), 1), ((27, 1, 0, 0, []), 1)] 243 _ _ _ (by decide +kernel) ?_
                refine And.intro (show (0 : Int) ≤ 0 ∧ (0 : Int) ≤ 1 from by decide) ?_
                exact Prod.mk.inj (Option.some.inj h)
              · refine And.intro (fun hp => absurd hp c28) (fun _ => ?_)
                obtain ⟨⟨vq29, σq29⟩, hq29, h⟩ := px_bind h
                dsimp only at h
                refine Exists.intro 1 (Exists.intro vq29 (Exists.intro σq29 (And.intro (Nat.le_of_ble_eq_true rfl) (And.intro (ok_M_readsRegister_84 hq29) ?_))))
                rcases px_ite h with ⟨c30, h⟩ | ⟨c30, h⟩
                · refine And.intro (fun hp => absurd c30 hp) (fun _ => ?_)
                  refine And.intro (show (0 : Int) ≤ 0 ∧ (0 : Int) ≤ 1 from by decide) ?_
                  exact Prod.mk.inj (Option.some.inj h)
                · refine And.intro (fun _ => ?_) (fun hn => absurd c30 hn)
                  refine H [((2, 0, 0, 0, []), 1), ((17, 84, 114, 0, []), 3), ((1, 2, 0, 0, []), 1), ((2, 0, 0, 0, []), 1), ((16, 84, 22, 0, []), 3), ((20, 114, 20, 0, []), 1), ((0, 0, 0, 1, []), 1), ((27, 1, 0, 0, []), 1)] 245 _ _ _ (by decide +kernel) ?_
                  obtain ⟨g31, h⟩ := px_gd h
                  refine And.intro g31 ?_
                  refine And.intro (show (0 : Int) ≤ 1 ∧ (1 : Int) ≤ 1 from by decide) ?_
                  exact Prod.mk.inj (Option.some.inj h)
theorem ok_M_readsOp_84_p94 {l : Launch} {rv : Int} {rσ : pS} {G : Nat → pL → List pV → pS → Prop} (H : px_R l 4 164 rv rσ G) : ∀ (a1 a2 : Int) (σ : pS), f_M_readsOp_84_p94 a1 a2 σ = some (rv, rσ) → G 94 [some (.inr 84), some (.inl a1), some (.inl a2)] [] σ := by
  intro a1 a2 σ h
  unfold f_M_readsOp_84_p94 at h
  refine H [((2, 0, 0, 0, []), 1), ((17, 84, 115, 0, []), 3), ((1, 2, 0, 0, []), 1), ((2, 0, 0, 0, []), 1), ((23, 144, 0, 1, [(0, 84)]), 3), ((24, 166, 1, 1, []), 3), ((20, 115, 20, 0, []), 1), ((2, 0, 0, 0, []), 1), ((17, 84, 115, 0, []), 3), ((1, 2, 0, 0, []), 1), ((19, 115, 20, 0, []), 1), ((0, 0, 0, (-1), []), 1), ((13, 1, 127, 0, []), 3), ((2, 0, 0, 0, []), 1), ((0, 0, 0, 1, []), 1), ((2, 0, 0, 0, []), 1), ((16, 84, 19, 0, []), 3), ((23, 145, 2, 1, [(0, 84)]), 3), ((27, 1, 0, 0, []), 1)] 94 _ _ _ (by decide +kernel) ?_
  obtain ⟨⟨vq9, σq9⟩, hq9, h⟩ := px_bind h
  dsimp only at h
  refine Exists.intro 0 (Exists.intro vq9 (Exists.intro σq9 (And.intro (Nat.le_of_ble_eq_true rfl) (And.intro (ok_M_here_84 hq9) ?_))))
  obtain ⟨⟨vq10, σq10⟩, hq10, h⟩ := px_bind h
  dsimp only at h
  refine Exists.intro 0 (Exists.intro vq10 (Exists.intro σq10 (And.intro (Nat.le_of_ble_eq_true rfl) (And.intro (ok_M_sizeBy hq10) ?_))))
  obtain ⟨g11, h⟩ := px_gd h
  refine And.intro g11 ?_
  obtain ⟨g12, h⟩ := px_gd h
  refine And.intro g12 ?_
  rcases px_ite h with ⟨c13, h⟩ | ⟨c13, h⟩
  · refine And.intro (fun hp => absurd c13 hp) (fun _ => ?_)
    obtain ⟨⟨vq35, σq35⟩, hq35, h⟩ := px_bind h
    dsimp only at h
    refine Exists.intro 0 (Exists.intro vq35 (Exists.intro σq35 (And.intro (Nat.le_of_ble_eq_true rfl) (And.intro (ok_M_wrongAt_84 hq35) ?_))))
    obtain ⟨g36, h⟩ := px_gd h
    refine And.intro g36 ?_
    exact Prod.mk.inj (Option.some.inj h)
  · refine And.intro (fun _ => ?_) (fun hn => absurd c13 hn)
    refine H [((2, 0, 0, 0, []), 1), ((2, 0, 0, 0, []), 1), ((16, 84, 19, 0, []), 3), ((0, 0, 0, 1, []), 1), ((6, 0, 0, 0, []), 1), ((18, 84, 19, 0, []), 3)] 127 _ _ _ (by decide +kernel) ?_
    exact ok_M_readsOp_84_p137 H _ _ _ h
theorem ok_M_readsOp_84_w {l : Launch} {rv : Int} {rσ : pS} {G : Nat → pL → List pV → pS → Prop} (H : px_R l 4 164 rv rσ G) : ∀ (σ : pS), f_M_readsOp_84  σ = some (rv, rσ) → G 0 [some (.inr 84), none, none] [] σ := by
  intro  σ h
  unfold f_M_readsOp_84 at h
  refine H [((2, 0, 0, 0, []), 1), ((23, 144, 0, 1, [(0, 84)]), 3), ((24, 165, 1, 1, []), 3), ((3, 1, 0, 0, []), 1), ((1, 1, 0, 0, []), 1), ((0, 0, 0, (-1), []), 1), ((13, 1, 23, 0, []), 3), ((2, 0, 0, 0, []), 1), ((0, 0, 0, 1, []), 1), ((2, 0, 0, 0, []), 1), ((16, 84, 19, 0, []), 3), ((23, 145, 2, 1, [(0, 84)]), 3), ((27, 1, 0, 0, []), 1)] 0 _ _ _ (by decide +kernel) ?_
  obtain ⟨⟨vq1, σq1⟩, hq1, h⟩ := px_bind h
  dsimp only at h
  refine Exists.intro 0 (Exists.intro vq1 (Exists.intro σq1 (And.intro (Nat.le_of_ble_eq_true rfl) (And.intro (ok_M_here_84 hq1) ?_))))
  obtain ⟨⟨vq2, σq2⟩, hq2, h⟩ := px_bind h
  dsimp only at h
  refine Exists.intro 0 (Exists.intro vq2 (Exists.intro σq2 (And.intro (Nat.le_of_ble_eq_true rfl) (And.intro (ok_M_kindBy hq2) ?_))))
  rcases px_ite h with ⟨c3, h⟩ | ⟨c3, h⟩
  · refine And.intro (fun hp => absurd c3 hp) (fun _ => ?_)
    obtain ⟨⟨vq40, σq40⟩, hq40, h⟩ := px_bind h
    dsimp only at h
    refine Exists.intro 0 (Exists.intro vq40 (Exists.intro σq40 (And.intro (Nat.le_of_ble_eq_true rfl) (And.intro (ok_M_wrongAt_84 hq40) ?_))))
    obtain ⟨g41, h⟩ := px_gd h
    refine And.intro g41 ?_
    exact Prod.mk.inj (Option.some.inj h)
  · refine And.intro (fun _ => ?_) (fun hn => absurd c3 hn)
    refine H [((2, 0, 0, 0, []), 1), ((16, 84, 41, 0, []), 3), ((0, 0, 0, 20, []), 2), ((13, 1, 42, 0, []), 3), ((2, 0, 0, 0, []), 1), ((0, 0, 0, 4, []), 1), ((2, 0, 0, 0, []), 1), ((16, 84, 19, 0, []), 3), ((23, 145, 2, 1, [(0, 84)]), 3), ((27, 1, 0, 0, []), 1)] 23 _ _ _ (by decide +kernel) ?_
    rcases px_ite h with ⟨c4, h⟩ | ⟨c4, h⟩
    · refine And.intro (fun hp => absurd c4 hp) (fun _ => ?_)
      obtain ⟨⟨vq38, σq38⟩, hq38, h⟩ := px_bind h
      dsimp only at h
      refine Exists.intro 0 (Exists.intro vq38 (Exists.intro σq38 (And.intro (Nat.le_of_ble_eq_true rfl) (And.intro (ok_M_wrongAt_84 hq38) ?_))))
      obtain ⟨g39, h⟩ := px_gd h
      refine And.intro g39 ?_
      exact Prod.mk.inj (Option.some.inj h)
    · refine And.intro (fun _ => ?_) (fun hn => absurd c4 hn)
      refine H [((2, 0, 0, 0, []), 1), ((16, 84, 41, 0, []), 3), ((3, 2, 0, 0, []), 1), ((2, 0, 0, 0, []), 1), ((2, 0, 0, 0, []), 1), ((16, 84, 41, 0, []), 3), ((0, 0, 0, 1, []), 1), ((6, 0, 0, 0, []), 1), ((18, 84, 41, 0, []), 3), ((2, 0, 0, 0, []), 1), ((17, 84, 110, 0, []), 3), ((1, 2, 0, 0, []), 1), ((1, 1, 0, 0, []), 1), ((20, 110, 20, 0, []), 1), ((2, 0, 0, 0, []), 1), ((17, 84, 111, 0, []), 3), ((1, 2, 0, 0, []), 1), ((2, 0, 0, 0, []), 1), ((23, 144, 0, 1, [(0, 84)]), 3), ((20, 111, 20, 0, []), 1), ((2, 0, 0, 0, []), 1), ((2, 0, 0, 0, []), 1), ((16, 84, 19, 0, []), 3), ((0, 0, 0, 1, []), 1), ((6, 0, 0, 0, []), 1), ((18, 84, 19, 0, []), 3), ((1, 1, 0, 0, []), 1), ((0, 0, 0, 2, []), 1), ((13, 0, 94, 0, []), 3), ((1, 1, 0, 0, []), 1), ((0, 0, 0, 3, []), 1), ((13, 1, 137, 0, []), 3)] 42 _ _ _ (by decide +kernel) ?_
      obtain ⟨g5, h⟩ := px_gd h
      refine And.intro g5 ?_
      obtain ⟨⟨vq6, σq6⟩, hq6, h⟩ := px_bind h
      dsimp only at h
      refine Exists.intro 0 (Exists.intro vq6 (Exists.intro σq6 (And.intro (Nat.le_of_ble_eq_true rfl) (And.intro (ok_M_here_84 hq6) ?_))))
      obtain ⟨g7, h⟩ := px_gd h
      refine And.intro g7 ?_
      rcases px_ite h with ⟨c8, h⟩ | ⟨c8, h⟩
      · refine And.intro (fun _ => ?_) (fun hn => absurd c8 hn)
        exact ok_M_readsOp_84_p94 H _ _ _ h
      · refine And.intro (fun hp => absurd hp c8) (fun _ => ?_)
        rcases px_ite h with ⟨c37, h⟩ | ⟨c37, h⟩
        · refine And.intro (fun hp => absurd c37 hp) (fun _ => ?_)
          exact ok_M_readsOp_84_p94 H _ _ _ h
        · refine And.intro (fun _ => ?_) (fun hn => absurd c37 hn)
          exact ok_M_readsOp_84_p137 H _ _ _ h
theorem ok_M_readsOp_84 {l : Launch} {σ : pS} {v : Int} {σ1 : pS} (h : f_M_readsOp_84  σ = some (v, σ1)) : Con l 4 164 [.inr 84] σ v σ1 := Con_mk 1 3 rfl (by decide +kernel) (fun _ H => ok_M_readsOp_84_w H  _ h)
theorem ok_M_program_84_p100 {l : Launch} {rv : Int} {rσ : pS} {G : Nat → pL → List pV → pS → Prop} (H : px_R l 5 163 rv rσ G) : ∀ (n : Nat) (a3 : Int) (σ : pS), f_M_program_84_p100 n a3 σ = some (rv, rσ) → G 100 [some (.inr 84), none, none, some (.inl a3)] [] σ := by
  intro n
  induction n with
  | zero =>
    intro a3 σ h
    unfold f_M_program_84_p100 at h
    cases h
  | succ n ih =>
    intro a3 σ h
    unfold f_M_program_84_p100 at h
    refine H [((1, 3, 0, 0, []), 1), ((2, 0, 0, 0, []), 1), ((16, 84, 2, 0, []), 3), ((13, 3, 217, 0, []), 3), ((2, 0, 0, 0, []), 1), ((17, 84, 88, 0, []), 3), ((1, 3, 0, 0, []), 1), ((2, 0, 0, 0, []), 1), ((17, 84, 110, 0, []), 3), ((1, 3, 0, 0, []), 1), ((19, 110, 20, 0, []), 1), ((20, 88, 20, 0, []), 1), ((2, 0, 0, 0, []), 1), ((17, 84, 89, 0, []), 3), ((1, 3, 0, 0, []), 1), ((2, 0, 0, 0, []), 1), ((17, 84, 111, 0, []), 3), ((1, 3, 0, 0, []), 1), ((19, 111, 20, 0, []), 1), ((20, 89, 20, 0, []), 1), ((2, 0, 0, 0, []), 1), ((17, 84, 90, 0, []), 3), ((1, 3, 0, 0, []), 1), ((2, 0, 0, 0, []), 1), ((17, 84, 112, 0, []), 3), ((1, 3, 0, 0, []), 1), ((19, 112, 20, 0, []), 1), ((20, 90, 20, 0, []), 1), ((2, 0, 0, 0, []), 1), ((17, 84, 91, 0, []), 3), ((1, 3, 0, 0, []), 1), ((2, 0, 0, 0, []), 1), ((17, 84, 113, 0, []), 3), ((1, 3, 0, 0, []), 1), ((19, 113, 20, 0, []), 1), ((20, 91, 20, 0, []), 1), ((2, 0, 0, 0, []), 1), ((17, 84, 92, 0, []), 3), ((1, 3, 0, 0, []), 1), ((2, 0, 0, 0, []), 1), ((17, 84, 114, 0, []), 3), ((1, 3, 0, 0, []), 1), ((19, 114, 20, 0, []), 1), ((20, 92, 20, 0, []), 1), ((2, 0, 0, 0, []), 1), ((17, 84, 93, 0, []), 3), ((1, 3, 0, 0, []), 1), ((2, 0, 0, 0, []), 1), ((17, 84, 115, 0, []), 3), ((1, 3, 0, 0, []), 1), ((19, 115, 20, 0, []), 1), ((20, 93, 20, 0, []), 1), ((2, 0, 0, 0, []), 1), ((17, 84, 94, 0, []), 3), ((1, 3, 0, 0, []), 1), ((2, 0, 0, 0, []), 1), ((17, 84, 116, 0, []), 3), ((1, 3, 0, 0, []), 1), ((19, 116, 20, 0, []), 1), ((20, 94, 20, 0, []), 1), ((2, 0, 0, 0, []), 1), ((17, 84, 95, 0, []), 3), ((1, 3, 0, 0, []), 1), ((2, 0, 0, 0, []), 1), ((17, 84, 117, 0, []), 3), ((1, 3, 0, 0, []), 1), ((19, 117, 20, 0, []), 1), ((20, 95, 20, 0, []), 1), ((2, 0, 0, 0, []), 1), ((17, 84, 87, 0, []), 3), ((1, 3, 0, 0, []), 1), ((0, 0, 0, (-1), []), 1), ((20, 87, 20, 0, []), 1), ((5, 3, 0, 1, []), 3), ((12, 0, 100, 0, []), 3)] 100 _ _ _ (by decide +kernel) ?_
    rcases px_ite h with ⟨c8, h⟩ | ⟨c8, h⟩
    · refine And.intro (fun _ => ?_) (fun hn => absurd c8 hn)
      refine H [((2, 0, 0, 0, []), 1), ((0, 0, 0, 0, []), 1), ((18, 84, 3, 0, []), 3), ((2, 0, 0, 0, []), 1), ((0, 0, 0, 0, []), 1), ((18, 84, 75, 1, []), 3), ((2, 0, 0, 0, []), 1), ((17, 84, 145, 0, []), 3), ((0, 0, 0, 0, []), 1), ((0, 0, 0, 0, []), 1), ((20, 145, 2, 0, []), 1), ((2, 0, 0, 0, []), 1), ((17, 84, 145, 0, []), 3), ((0, 0, 0, 1, []), 1), ((0, 0, 0, 0, []), 1), ((20, 145, 2, 0, []), 1), ((2, 0, 0, 0, []), 1), ((2, 0, 0, 0, []), 1), ((16, 84, 5, 0, []), 3), ((0, 0, 0, 1, []), 1), ((6, 0, 0, 0, []), 1), ((18, 84, 5, 0, []), 3), ((2, 0, 0, 0, []), 1), ((16, 84, 2, 0, []), 3), ((27, 0, 0, 0, []), 1)] 217 _ _ _ (by decide +kernel) ?_
      refine And.intro (show (0 : Int) ≤ 0 ∧ (0 : Int) ≤ 1 from by decide) ?_
      refine And.intro (show (0 : Int) ≤ 0 ∧ (0 : Int) < 2 from by decide) ?_
      refine And.intro (show (0 : Int) ≤ 1 ∧ (1 : Int) < 2 from by decide) ?_
      exact Prod.mk.inj (Option.some.inj h)
    · refine And.intro (fun hp => absurd hp c8) (fun _ => ?_)
      obtain ⟨g9, h⟩ := px_gd h
      refine And.intro g9 ?_
      obtain ⟨g10, h⟩ := px_gd h
      refine And.intro g10 ?_
      obtain ⟨g11, h⟩ := px_gd h
      refine And.intro g11 ?_
      obtain ⟨g12, h⟩ := px_gd h
      refine And.intro g12 ?_
      obtain ⟨g13, h⟩ := px_gd h
      refine And.intro g13 ?_
      obtain ⟨g14, h⟩ := px_gd h
      refine And.intro g14 ?_
      obtain ⟨g15, h⟩ := px_gd h
      refine And.intro g15 ?_
      obtain ⟨g16, h⟩ := px_gd h
      refine And.intro g16 ?_
      obtain ⟨g17, h⟩ := px_gd h
      refine And.intro g17 ?_
      obtain ⟨g18, h⟩ := px_gd h
      refine And.intro g18 ?_
      obtain ⟨g19, h⟩ := px_gd h
      refine And.intro g19 ?_
      obtain ⟨g20, h⟩ := px_gd h
      refine And.intro g20 ?_
      obtain ⟨g21, h⟩ := px_gd h
      refine And.intro g21 ?_
      obtain ⟨g22, h⟩ := px_gd h
      refine And.intro g22 ?_
      obtain ⟨g23, h⟩ := px_gd h
      refine And.intro g23 ?_
      obtain ⟨g24, h⟩ := px_gd h
      refine And.intro g24 ?_
      obtain ⟨g25, h⟩ := px_gd h
      refine And.intro g25 ?_
      exact ih _ _ h
theorem ok_M_program_84_p76 {l : Launch} {rv : Int} {rσ : pS} {G : Nat → pL → List pV → pS → Prop} (H : px_R l 5 163 rv rσ G) : ∀ (a2 : Int) (σ : pS), f_M_program_84_p76 a2 σ = some (rv, rσ) → G 76 [some (.inr 84), none, some (.inl a2), none] [] σ := by
  intro a2 σ h
  unfold f_M_program_84_p76 at h
  refine H [((2, 0, 0, 0, []), 1), ((0, 0, 0, 0, []), 1), ((18, 84, 18, 0, []), 3), ((1, 2, 0, 0, []), 1), ((14, 1, 90, 0, []), 3), ((2, 0, 0, 0, []), 1), ((16, 84, 21, 0, []), 3), ((27, 0, 0, 0, []), 1)] 76 _ _ _ (by decide +kernel) ?_
  rcases px_ite h with ⟨c7, h⟩ | ⟨c7, h⟩
  · refine And.intro (fun hp => absurd c7 hp) (fun _ => ?_)
    exact Prod.mk.inj (Option.some.inj h)
  · refine And.intro (fun _ => ?_) (fun hn => absurd c7 hn)
    refine H [((2, 0, 0, 0, []), 1), ((2, 0, 0, 0, []), 1), ((16, 84, 41, 0, []), 3), ((18, 84, 2, 0, []), 3), ((0, 0, 0, 0, []), 1), ((3, 3, 0, 0, []), 1), ((29, 2, 0, 0, []), 0)] 90 _ _ _ (by decide +kernel) ?_
    exact ok_M_program_84_p100 H _ _ _ h
theorem ok_M_program_84_p36 {l : Launch} {rv : Int} {rσ : pS} {G : Nat → pL → List pV → pS → Prop} (H : px_R l 5 163 rv rσ G) : ∀ (n : Nat) (a2 : Int) (σ : pS), f_M_program_84_p36 n a2 σ = some (rv, rσ) → G 36 [some (.inr 84), none, some (.inl a2), none] [] σ := by
  intro n
  induction n with
  | zero =>
    intro a2 σ h
    unfold f_M_program_84_p36 at h
    cases h
  | succ n ih =>
    intro a2 σ h
    unfold f_M_program_84_p36 at h
    refine H [((1, 2, 0, 0, []), 1), ((14, 0, 76, 0, []), 3), ((2, 0, 0, 0, []), 1), ((16, 84, 19, 0, []), 3), ((2, 0, 0, 0, []), 1), ((16, 84, 20, 0, []), 3), ((13, 3, 76, 0, []), 3), ((2, 0, 0, 0, []), 1), ((0, 0, 0, 59, []), 2), ((23, 162, 1, 1, [(0, 84)]), 3), ((14, 0, 71, 0, []), 3), ((2, 0, 0, 0, []), 1), ((23, 164, 0, 1, [(0, 84)]), 3), ((14, 0, 71, 0, []), 3), ((0, 0, 0, 1, []), 1), ((12, 0, 72, 0, []), 3), ((3, 2, 0, 0, []), 1), ((12, 0, 36, 0, []), 3)] 36 _ _ _ (by decide +kernel) ?_
    rcases px_ite h with ⟨c6, h⟩ | ⟨c6, h⟩
    · refine And.intro (fun _ => ?_) (fun hn => absurd c6 hn)
      exact ok_M_program_84_p76 H _ _ h
    · refine And.intro (fun hp => absurd hp c6) (fun _ => ?_)
      rcases px_ite h with ⟨c26, h⟩ | ⟨c26, h⟩
      · refine And.intro (fun _ => ?_) (fun hn => absurd c26 hn)
        exact ok_M_program_84_p76 H _ _ h
      · refine And.intro (fun hp => absurd hp c26) (fun _ => ?_)
        obtain ⟨⟨vq27, σq27⟩, hq27, h⟩ := px_bind h
        dsimp only at h
        refine Exists.intro 1 (Exists.intro vq27 (Exists.intro σq27 (And.intro (Nat.le_of_ble_eq_true rfl) (And.intro (ok_M_takes_84 hq27) ?_))))
        rcases px_ite h with ⟨c28, h⟩ | ⟨c28, h⟩
        · refine And.intro (fun _ => ?_) (fun hn => absurd c28 hn)
          refine H [((0, 0, 0, 0, []), 1), ((3, 2, 0, 0, []), 1), ((12, 0, 36, 0, []), 3)] 71 _ _ _ (by decide +kernel) ?_
          exact ih _ _ h
        · refine And.intro (fun hp => absurd hp c28) (fun _ => ?_)
          obtain ⟨⟨vq29, σq29⟩, hq29, h⟩ := px_bind h
          dsimp only at h
          refine Exists.intro 4 (Exists.intro vq29 (Exists.intro σq29 (And.intro (Nat.le_of_ble_eq_true rfl) (And.intro (ok_M_readsOp_84 hq29) ?_))))
          rcases px_ite h with ⟨c30, h⟩ | ⟨c30, h⟩
          · refine And.intro (fun _ => ?_) (fun hn => absurd c30 hn)
            refine H [((0, 0, 0, 0, []), 1), ((3, 2, 0, 0, []), 1), ((12, 0, 36, 0, []), 3)] 71 _ _ _ (by decide +kernel) ?_
            exact ih _ _ h
          · refine And.intro (fun hp => absurd hp c30) (fun _ => ?_)
            exact ih _ _ h
theorem ok_M_program_84_w {l : Launch} {rv : Int} {rσ : pS} {G : Nat → pL → List pV → pS → Prop} (H : px_R l 5 163 rv rσ G) : ∀ (a1 : Int) (σ : pS), f_M_program_84 a1 σ = some (rv, rσ) → G 0 [some (.inr 84), some (.inl a1), none, none] [] σ := by
  intro a1 σ h
  unfold f_M_program_84 at h
  refine H [((1, 1, 0, 0, []), 1), ((0, 0, 0, 1, []), 1), ((0, 0, 0, 240, []), 3), ((24, 137, 3, 1, []), 3), ((14, 0, 19, 0, []), 3), ((1, 1, 0, 0, []), 1), ((2, 0, 0, 0, []), 1), ((16, 84, 18, 0, []), 3), ((13, 5, 21, 0, []), 3), ((0, 0, 0, (-1), []), 1), ((27, 0, 0, 0, []), 1)] 0 _ _ _ (by decide +kernel) ?_
  obtain ⟨⟨vq1, σq1⟩, hq1, h⟩ := px_bind h
  dsimp only at h
  refine Exists.intro 0 (Exists.intro vq1 (Exists.intro σq1 (And.intro (Nat.le_of_ble_eq_true rfl) (And.intro (ok_M_in hq1) ?_))))
  rcases px_ite h with ⟨c2, h⟩ | ⟨c2, h⟩
  · refine And.intro (fun _ => ?_) (fun hn => absurd c2 hn)
    refine H [((0, 0, 0, (-1), []), 1), ((27, 0, 0, 0, []), 1)] 19 _ _ _ (by decide +kernel) ?_
    exact Prod.mk.inj (Option.some.inj h)
  · refine And.intro (fun hp => absurd hp c2) (fun _ => ?_)
    rcases px_ite h with ⟨c3, h⟩ | ⟨c3, h⟩
    · refine And.intro (fun _ => ?_) (fun hn => absurd c3 hn)
      refine H [((2, 0, 0, 0, []), 1), ((1, 1, 0, 0, []), 1), ((23, 142, 1, 0, [(0, 84)]), 3), ((2, 0, 0, 0, []), 1), ((0, 0, 0, 0, []), 1), ((18, 84, 41, 0, []), 3), ((2, 0, 0, 0, []), 1), ((23, 164, 0, 1, [(0, 84)]), 3), ((3, 2, 0, 0, []), 1), ((29, 1, 0, 0, []), 0)] 21 _ _ _ (by decide +kernel) ?_
      obtain ⟨⟨vq4, σq4⟩, hq4, h⟩ := px_bind h
      dsimp only at h
      refine Exists.intro 0 (Exists.intro vq4 (Exists.intro σq4 (And.intro (Nat.le_of_ble_eq_true rfl) (And.intro (ok_M_beginsText_84 hq4) ?_))))
      obtain ⟨⟨vq5, σq5⟩, hq5, h⟩ := px_bind h
      dsimp only at h
      refine Exists.intro 4 (Exists.intro vq5 (Exists.intro σq5 (And.intro (Nat.le_of_ble_eq_true rfl) (And.intro (ok_M_readsOp_84 hq5) ?_))))
      exact ok_M_program_84_p36 H _ _ _ h
    · refine And.intro (fun hp => absurd hp c3) (fun _ => ?_)
      exact Prod.mk.inj (Option.some.inj h)
theorem ok_M_program_84 {l : Launch} {a1 : Int} {σ : pS} {v : Int} {σ1 : pS} (h : f_M_program_84 a1 σ = some (v, σ1)) : Con l 5 163 [.inr 84, .inl a1] σ v σ1 := Con_mk 2 4 rfl (by decide +kernel) (fun _ H => ok_M_program_84_w H _ _ h)
theorem ok_X_isOp_0_w {l : Launch} {rv : Int} {rσ : pS} {G : Nat → pL → List pV → pS → Prop} (H : px_R l 0 104 rv rσ G) : ∀ (a1 : Int) (σ : pS), f_X_isOp_0 a1 σ = some (rv, rσ) → G 0 [some (.inr 0), some (.inl a1)] [] σ := by
  intro a1 σ h
  unfold f_X_isOp_0 at h
  refine H [((1, 1, 0, 0, []), 1), ((14, 2, 22, 0, []), 3), ((1, 1, 0, 0, []), 1), ((2, 0, 0, 0, []), 1), ((17, 0, 3, 0, []), 3), ((17, 3, 4, 0, []), 3), ((16, 4, 11, 0, []), 3), ((13, 3, 22, 0, []), 3), ((0, 0, 0, 1, []), 1), ((12, 0, 23, 0, []), 3), ((27, 1, 0, 0, []), 1)] 0 _ _ _ (by decide +kernel) ?_
  rcases px_ite h with ⟨c1, h⟩ | ⟨c1, h⟩
  · refine And.intro (fun _ => ?_) (fun hn => absurd c1 hn)
    refine H [((0, 0, 0, 0, []), 1), ((27, 1, 0, 0, []), 1)] 22 _ _ _ (by decide +kernel) ?_
    refine And.intro (show (0 : Int) ≤ 0 ∧ (0 : Int) ≤ 1 from by decide) ?_
    exact Prod.mk.inj (Option.some.inj h)
  · refine And.intro (fun hp => absurd hp c1) (fun _ => ?_)
    rcases px_ite h with ⟨c2, h⟩ | ⟨c2, h⟩
    · refine And.intro (fun _ => ?_) (fun hn => absurd c2 hn)
      refine H [((0, 0, 0, 0, []), 1), ((27, 1, 0, 0, []), 1)] 22 _ _ _ (by decide +kernel) ?_
      refine And.intro (show (0 : Int) ≤ 0 ∧ (0 : Int) ≤ 1 from by decide) ?_
      exact Prod.mk.inj (Option.some.inj h)
    · refine And.intro (fun hp => absurd hp c2) (fun _ => ?_)
      refine And.intro (show (0 : Int) ≤ 1 ∧ (1 : Int) ≤ 1 from by decide) ?_
      exact Prod.mk.inj (Option.some.inj h)
theorem ok_X_isOp_0 {l : Launch} {a1 : Int} {σ : pS} {v : Int} {σ1 : pS} (h : f_X_isOp_0 a1 σ = some (v, σ1)) : Con l 0 104 [.inr 0, .inl a1] σ v σ1 := Con_mk 2 2 rfl (by decide +kernel) (fun _ H => ok_X_isOp_0_w H _ _ h)
theorem ok_X_orAbsent_w {l : Launch} {rv : Int} {rσ : pS} {G : Nat → pL → List pV → pS → Prop} (H : px_R l 0 106 rv rσ G) : ∀ (a0 : Int) (σ : pS), f_X_orAbsent a0 σ = some (rv, rσ) → G 0 [some (.inl a0)] [] σ := by
  intro a0 σ h
  unfold f_X_orAbsent at h
  refine H [((1, 0, 0, 0, []), 1), ((0, 0, 0, (-1), []), 1), ((13, 1, 10, 0, []), 3), ((0, 0, 0, (-2), []), 2), ((12, 0, 11, 0, []), 3), ((27, 0, 0, 0, []), 1)] 0 _ _ _ (by decide +kernel) ?_
  rcases px_ite h with ⟨c1, h⟩ | ⟨c1, h⟩
  · refine And.intro (fun hp => absurd c1 hp) (fun _ => ?_)
    exact Prod.mk.inj (Option.some.inj h)
  · refine And.intro (fun _ => ?_) (fun hn => absurd c1 hn)
    refine H [((1, 0, 0, 0, []), 1), ((27, 0, 0, 0, []), 1)] 10 _ _ _ (by decide +kernel) ?_
    exact Prod.mk.inj (Option.some.inj h)
theorem ok_X_orAbsent {l : Launch} {a0 : Int} {σ : pS} {v : Int} {σ1 : pS} (h : f_X_orAbsent a0 σ = some (v, σ1)) : Con l 0 106 [.inl a0] σ v σ1 := Con_mk 1 1 rfl (by decide +kernel) (fun _ H => ok_X_orAbsent_w H _ _ h)
theorem ok_X_source_0_w {l : Launch} {rv : Int} {rσ : pS} {G : Nat → pL → List pV → pS → Prop} (H : px_R l 1 108 rv rσ G) : ∀ (a1 a2 : Int) (σ : pS), f_X_source_0 a1 a2 σ = some (rv, rσ) → G 0 [some (.inr 0), some (.inl a1), some (.inl a2)] [] σ := by
  intro a1 a2 σ h
  unfold f_X_source_0 at h
  refine H [((2, 0, 0, 0, []), 1), ((1, 1, 0, 0, []), 1), ((23, 104, 1, 1, [(0, 0)]), 3), ((14, 0, 15, 0, []), 3), ((1, 2, 0, 0, []), 1), ((24, 52, 1, 1, []), 3), ((14, 1, 17, 0, []), 3), ((0, 0, 0, (-1), []), 1), ((27, 0, 0, 0, []), 1)] 0 _ _ _ (by decide +kernel) ?_
  obtain ⟨⟨vq1, σq1⟩, hq1, h⟩ := px_bind h
  dsimp only at h
  refine Exists.intro 0 (Exists.intro vq1 (Exists.intro σq1 (And.intro (Nat.le_of_ble_eq_true rfl) (And.intro (ok_X_isOp_0 hq1) ?_))))
  rcases px_ite h with ⟨c2, h⟩ | ⟨c2, h⟩
  · refine And.intro (fun _ => ?_) (fun hn => absurd c2 hn)
    refine H [((0, 0, 0, (-1), []), 1), ((27, 0, 0, 0, []), 1)] 15 _ _ _ (by decide +kernel) ?_
    exact Prod.mk.inj (Option.some.inj h)
  · refine And.intro (fun hp => absurd hp c2) (fun _ => ?_)
    obtain ⟨⟨vq3, σq3⟩, hq3, h⟩ := px_bind h
    dsimp only at h
    refine Exists.intro 0 (Exists.intro vq3 (Exists.intro σq3 (And.intro (Nat.le_of_ble_eq_true rfl) (And.intro (ok_X_isCell hq3) ?_))))
    rcases px_ite h with ⟨c4, h⟩ | ⟨c4, h⟩
    · refine And.intro (fun hp => absurd c4 hp) (fun _ => ?_)
      exact Prod.mk.inj (Option.some.inj h)
    · refine And.intro (fun _ => ?_) (fun hn => absurd c4 hn)
      refine H [((2, 0, 0, 0, []), 1), ((17, 0, 3, 0, []), 3), ((17, 3, 4, 0, []), 3), ((17, 4, 9, 0, []), 3), ((1, 1, 0, 0, []), 1), ((19, 9, 20, 0, []), 1), ((1, 2, 0, 0, []), 1), ((13, 1, 49, 0, []), 3), ((2, 0, 0, 0, []), 1), ((17, 0, 3, 0, []), 3), ((17, 3, 4, 0, []), 3), ((17, 4, 12, 0, []), 3), ((1, 1, 0, 0, []), 1), ((19, 12, 20, 0, []), 1), ((24, 106, 1, 1, []), 3), ((27, 0, 0, 0, []), 1)] 17 _ _ _ (by decide +kernel) ?_
      obtain ⟨g5, h⟩ := px_gd h
      refine And.intro g5 ?_
      rcases px_ite h with ⟨c6, h⟩ | ⟨c6, h⟩
      · refine And.intro (fun hp => absurd c6 hp) (fun _ => ?_)
        obtain ⟨g11, h⟩ := px_gd h
        refine And.intro g11 ?_
        obtain ⟨⟨vq12, σq12⟩, hq12, h⟩ := px_bind h
        dsimp only at h
        refine Exists.intro 0 (Exists.intro vq12 (Exists.intro σq12 (And.intro (Nat.le_of_ble_eq_true rfl) (And.intro (ok_X_orAbsent hq12) ?_))))
        exact Prod.mk.inj (Option.some.inj h)
      · refine And.intro (fun _ => ?_) (fun hn => absurd c6 hn)
        refine H [((2, 0, 0, 0, []), 1), ((17, 0, 3, 0, []), 3), ((17, 3, 4, 0, []), 3), ((17, 4, 10, 0, []), 3), ((1, 1, 0, 0, []), 1), ((19, 10, 20, 0, []), 1), ((1, 2, 0, 0, []), 1), ((13, 1, 81, 0, []), 3), ((2, 0, 0, 0, []), 1), ((17, 0, 3, 0, []), 3), ((17, 3, 4, 0, []), 3), ((17, 4, 13, 0, []), 3), ((1, 1, 0, 0, []), 1), ((19, 13, 20, 0, []), 1), ((24, 106, 1, 1, []), 3), ((27, 0, 0, 0, []), 1)] 49 _ _ _ (by decide +kernel) ?_
        obtain ⟨g7, h⟩ := px_gd h
        refine And.intro g7 ?_
        rcases px_ite h with ⟨c8, h⟩ | ⟨c8, h⟩
        · refine And.intro (fun hp => absurd c8 hp) (fun _ => ?_)
          obtain ⟨g9, h⟩ := px_gd h
          refine And.intro g9 ?_
          obtain ⟨⟨vq10, σq10⟩, hq10, h⟩ := px_bind h
          dsimp only at h
          refine Exists.intro 0 (Exists.intro vq10 (Exists.intro σq10 (And.intro (Nat.le_of_ble_eq_true rfl) (And.intro (ok_X_orAbsent hq10) ?_))))
          exact Prod.mk.inj (Option.some.inj h)
        · refine And.intro (fun _ => ?_) (fun hn => absurd c8 hn)
          refine H [((0, 0, 0, (-2), []), 2), ((27, 0, 0, 0, []), 1)] 81 _ _ _ (by decide +kernel) ?_
          exact Prod.mk.inj (Option.some.inj h)
theorem ok_X_source_0 {l : Launch} {a1 a2 : Int} {σ : pS} {v : Int} {σ1 : pS} (h : f_X_source_0 a1 a2 σ = some (v, σ1)) : Con l 1 108 [.inr 0, .inl a1, .inl a2] σ v σ1 := Con_mk 3 3 rfl (by decide +kernel) (fun _ H => ok_X_source_0_w H _ _ _ h)
