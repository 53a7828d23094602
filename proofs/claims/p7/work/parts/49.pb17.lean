theorem ok_M_worst_84_w {l : Launch} {rv : Int} {rσ : pS} {G : Nat → pL → List pV → pS → Prop} (H : px_R l 1 228 rv rσ G) : ∀ (a1 : Int) (σ : pS), f_M_worst_84 a1 σ = some (rv, rσ) → G 0 [some (.inr 84), some (.inl a1)] [] σ := by
  intro a1 σ h
  unfold f_M_worst_84 at h
  refine H [((1, 1, 0, 0, []), 1), ((0, 0, 0, 0, []), 1), ((0, 0, 0, 1, []), 1), ((24, 137, 3, 1, []), 3), ((14, 1, 11, 0, []), 3), ((0, 0, 0, (-1), []), 1), ((27, 0, 0, 0, []), 1)] 0 _ _ _ (by decide +kernel) ?_
  obtain ⟨⟨vq1, σq1⟩, hq1, h⟩ := px_bind h
  dsimp only at h
  refine Exists.intro 0 (Exists.intro vq1 (Exists.intro σq1 (And.intro (Nat.le_of_ble_eq_true rfl) (And.intro (ok_M_in hq1) ?_))))
  rcases px_ite h with ⟨c2, h⟩ | ⟨c2, h⟩
  · refine And.intro (fun hp => absurd c2 hp) (fun _ => ?_)
    exact Prod.mk.inj (Option.some.inj h)
  · refine And.intro (fun _ => ?_) (fun hn => absurd c2 hn)
    refine H [((2, 0, 0, 0, []), 1), ((16, 84, 75, 0, []), 3), ((14, 1, 21, 0, []), 3), ((0, 0, 0, (-2), []), 2), ((27, 0, 0, 0, []), 1)] 11 _ _ _ (by decide +kernel) ?_
    rcases px_ite h with ⟨c3, h⟩ | ⟨c3, h⟩
    · refine And.intro (fun hp => absurd c3 hp) (fun _ => ?_)
      exact Prod.mk.inj (Option.some.inj h)
    · refine And.intro (fun _ => ?_) (fun hn => absurd c3 hn)
      refine H [((1, 1, 0, 0, []), 1), ((14, 1, 32, 0, []), 3), ((2, 0, 0, 0, []), 1), ((23, 229, 0, 1, [(0, 84)]), 3), ((12, 0, 41, 0, []), 3), ((27, 0, 0, 0, []), 1)] 21 _ _ _ (by decide +kernel) ?_
      rcases px_ite h with ⟨c4, h⟩ | ⟨c4, h⟩
      · refine And.intro (fun hp => absurd c4 hp) (fun _ => ?_)
        obtain ⟨⟨vq7, σq7⟩, hq7, h⟩ := px_bind h
        dsimp only at h
        refine Exists.intro 0 (Exists.intro vq7 (Exists.intro σq7 (And.intro (Nat.le_of_ble_eq_true rfl) (And.intro (ok_M_worstOp_84 hq7) ?_))))
        exact Prod.mk.inj (Option.some.inj h)
      · refine And.intro (fun _ => ?_) (fun hn => absurd c4 hn)
        refine H [((2, 0, 0, 0, []), 1), ((17, 84, 136, 0, []), 3), ((2, 0, 0, 0, []), 1), ((23, 229, 0, 1, [(0, 84)]), 3), ((19, 136, 20, 0, []), 1), ((27, 0, 0, 0, []), 1)] 32 _ _ _ (by decide +kernel) ?_
        obtain ⟨⟨vq5, σq5⟩, hq5, h⟩ := px_bind h
        dsimp only at h
        refine Exists.intro 0 (Exists.intro vq5 (Exists.intro σq5 (And.intro (Nat.le_of_ble_eq_true rfl) (And.intro (ok_M_worstOp_84 hq5) ?_))))
        obtain ⟨g6, h⟩ := px_gd h
        refine And.intro g6 ?_
        exact Prod.mk.inj (Option.some.inj h)
theorem ok_M_worst_84 {l : Launch} {a1 : Int} {σ : pS} {v : Int} {σ1 : pS} (h : f_M_worst_84 a1 σ = some (v, σ1)) : Con l 1 228 [.inr 84, .inl a1] σ v σ1 := Con_mk 2 2 rfl (by decide +kernel) (fun _ H => ok_M_worst_84_w H _ _ h)
theorem ok_Plain_meet_65_4_w {l : Launch} {rv : Int} {rσ : pS} {G : Nat → pL → List pV → pS → Prop} (H : px_R l 1 122 rv rσ G) : ∀ (a2 a3 : Int) (σ : pS), f_Plain_meet_65_4 a2 a3 σ = some (rv, rσ) → G 0 [some (.inr 65), some (.inr 4), some (.inl a2), some (.inl a3)] [] σ := by
  intro a2 a3 σ h
  unfold f_Plain_meet_65_4 at h
  refine H [((2, 0, 0, 0, []), 1), ((17, 65, 70, 0, []), 3), ((1, 3, 0, 0, []), 1), ((19, 70, 20, 0, []), 1), ((2, 1, 0, 0, []), 1), ((17, 4, 7, 0, []), 3), ((1, 3, 0, 0, []), 1), ((19, 7, 20, 0, []), 1), ((2, 0, 0, 0, []), 1), ((17, 65, 70, 0, []), 3), ((1, 2, 0, 0, []), 1), ((19, 70, 20, 0, []), 1), ((24, 70, 3, 1, []), 3), ((14, 1, 48, 0, []), 3), ((2, 0, 0, 0, []), 1), ((17, 65, 70, 0, []), 3), ((1, 2, 0, 0, []), 1), ((19, 70, 20, 0, []), 1), ((2, 1, 0, 0, []), 1), ((17, 4, 7, 0, []), 3), ((1, 2, 0, 0, []), 1), ((19, 7, 20, 0, []), 1), ((2, 0, 0, 0, []), 1), ((17, 65, 70, 0, []), 3), ((1, 3, 0, 0, []), 1), ((19, 70, 20, 0, []), 1), ((24, 70, 3, 1, []), 3), ((14, 0, 52, 0, []), 3), ((0, 0, 0, 1, []), 1), ((12, 0, 53, 0, []), 3), ((27, 1, 0, 0, []), 1)] 0 _ _ _ (by decide +kernel) ?_
  obtain ⟨g1, h⟩ := px_gd h
  refine And.intro g1 ?_
  obtain ⟨g2, h⟩ := px_gd h
  refine And.intro g2 ?_
  obtain ⟨g3, h⟩ := px_gd h
  refine And.intro g3 ?_
  obtain ⟨⟨vq4, σq4⟩, hq4, h⟩ := px_bind h
  dsimp only at h
  refine Exists.intro 0 (Exists.intro vq4 (Exists.intro σq4 (And.intro (Nat.le_of_ble_eq_true rfl) (And.intro (ok_X_covers hq4) ?_))))
  rcases px_ite h with ⟨c5, h⟩ | ⟨c5, h⟩
  · refine And.intro (fun hp => absurd c5 hp) (fun _ => ?_)
    obtain ⟨g6, h⟩ := px_gd h
    refine And.intro g6 ?_
    obtain ⟨g7, h⟩ := px_gd h
    refine And.intro g7 ?_
    obtain ⟨g8, h⟩ := px_gd h
    refine And.intro g8 ?_
    obtain ⟨⟨vq9, σq9⟩, hq9, h⟩ := px_bind h
    dsimp only at h
    refine Exists.intro 0 (Exists.intro vq9 (Exists.intro σq9 (And.intro (Nat.le_of_ble_eq_true rfl) (And.intro (ok_X_covers hq9) ?_))))
    rcases px_ite h with ⟨c10, h⟩ | ⟨c10, h⟩
    · refine And.intro (fun _ => ?_) (fun hn => absurd c10 hn)
      refine H [((0, 0, 0, 0, []), 1), ((27, 1, 0, 0, []), 1)] 52 _ _ _ (by decide +kernel) ?_
      refine And.intro (show (0 : Int) ≤ 0 ∧ (0 : Int) ≤ 1 from by decide) ?_
      exact Prod.mk.inj (Option.some.inj h)
    · refine And.intro (fun hp => absurd hp c10) (fun _ => ?_)
      refine And.intro (show (0 : Int) ≤ 1 ∧ (1 : Int) ≤ 1 from by decide) ?_
      exact Prod.mk.inj (Option.some.inj h)
  · refine And.intro (fun _ => ?_) (fun hn => absurd c5 hn)
    refine H [((0, 0, 0, 1, []), 1), ((12, 0, 53, 0, []), 3), ((27, 1, 0, 0, []), 1)] 48 _ _ _ (by decide +kernel) ?_
    refine And.intro (show (0 : Int) ≤ 1 ∧ (1 : Int) ≤ 1 from by decide) ?_
    exact Prod.mk.inj (Option.some.inj h)
theorem ok_Plain_meet_65_4 {l : Launch} {a2 a3 : Int} {σ : pS} {v : Int} {σ1 : pS} (h : f_Plain_meet_65_4 a2 a3 σ = some (v, σ1)) : Con l 1 122 [.inr 65, .inr 4, .inl a2, .inl a3] σ v σ1 := Con_mk 4 4 rfl (by decide +kernel) (fun _ H => ok_Plain_meet_65_4_w H _ _ _ h)
theorem ok_Plain_sharedBytes_65_4_p15 {l : Launch} {rv : Int} {rσ : pS} {G : Nat → pL → List pV → pS → Prop} (H : px_R l 2 121 rv rσ G) {k_4 : Int → Int → pS → Option (Int × pS)} (hk_4 : ∀ (a2 a3 : Int) (σ : pS), k_4 a2 a3 σ = some (rv, rσ) → G 4 [some (.inr 65), some (.inr 4), some (.inl a2), some (.inl a3), none] [] σ) : ∀ (n : Nat) (a2 a3 a4 : Int) (σ : pS), f_Plain_sharedBytes_65_4_p15 k_4 n a2 a3 a4 σ = some (rv, rσ) → G 15 [some (.inr 65), some (.inr 4), some (.inl a2), some (.inl a3), some (.inl a4)] [] σ := by
  intro n
  induction n with
  | zero =>
    intro a2 a3 a4 σ h
    unfold f_Plain_sharedBytes_65_4_p15 at h
    cases h
  | succ n ih =>
    intro a2 a3 a4 σ h
    unfold f_Plain_sharedBytes_65_4_p15 at h
    refine H [((1, 4, 0, 0, []), 2), ((1, 3, 0, 0, []), 1), ((13, 3, 62, 0, []), 3), ((2, 1, 0, 0, []), 1), ((17, 4, 5, 0, []), 3), ((1, 3, 0, 0, []), 1), ((19, 5, 20, 0, []), 1), ((0, 0, 0, 2, []), 1), ((13, 1, 56, 0, []), 3), ((2, 1, 0, 0, []), 1), ((17, 4, 5, 0, []), 3), ((1, 4, 0, 0, []), 2), ((19, 5, 20, 0, []), 1), ((0, 0, 0, 3, []), 1), ((13, 1, 56, 0, []), 3), ((2, 0, 0, 0, []), 1), ((2, 1, 0, 0, []), 1), ((1, 3, 0, 0, []), 1), ((1, 4, 0, 0, []), 2), ((23, 122, 3, 1, [(0, 65)]), 3), ((14, 0, 56, 0, []), 3), ((5, 2, 0, 1, []), 3), ((5, 4, 0, 1, []), 3), ((12, 0, 15, 0, []), 3)] 15 _ _ _ (by decide +kernel) ?_
    rcases px_ite h with ⟨c2, h⟩ | ⟨c2, h⟩
    · refine And.intro (fun _ => ?_) (fun hn => absurd c2 hn)
      refine H [((5, 3, 0, 1, []), 3), ((12, 0, 4, 0, []), 3), ((29, 4, 0, 0, []), 0)] 62 _ _ _ (by decide +kernel) ?_
      exact hk_4 _ _ _ h
    · refine And.intro (fun hp => absurd hp c2) (fun _ => ?_)
      obtain ⟨g3, h⟩ := px_gd h
      refine And.intro g3 ?_
      rcases px_ite h with ⟨c4, h⟩ | ⟨c4, h⟩
      · refine And.intro (fun hp => absurd c4 hp) (fun _ => ?_)
        obtain ⟨g5, h⟩ := px_gd h
        refine And.intro g5 ?_
        rcases px_ite h with ⟨c6, h⟩ | ⟨c6, h⟩
        · refine And.intro (fun hp => absurd c6 hp) (fun _ => ?_)
          obtain ⟨⟨vq7, σq7⟩, hq7, h⟩ := px_bind h
          dsimp only at h
          refine Exists.intro 1 (Exists.intro vq7 (Exists.intro σq7 (And.intro (Nat.le_of_ble_eq_true rfl) (And.intro (ok_Plain_meet_65_4 hq7) ?_))))
          rcases px_ite h with ⟨c8, h⟩ | ⟨c8, h⟩
          · refine And.intro (fun _ => ?_) (fun hn => absurd c8 hn)
            refine H [((5, 4, 0, 1, []), 3), ((12, 0, 15, 0, []), 3)] 56 _ _ _ (by decide +kernel) ?_
            exact ih _ _ _ _ h
          · refine And.intro (fun hp => absurd hp c8) (fun _ => ?_)
            exact ih _ _ _ _ h
        · refine And.intro (fun _ => ?_) (fun hn => absurd c6 hn)
          refine H [((5, 4, 0, 1, []), 3), ((12, 0, 15, 0, []), 3)] 56 _ _ _ (by decide +kernel) ?_
          exact ih _ _ _ _ h
      · refine And.intro (fun _ => ?_) (fun hn => absurd c4 hn)
        refine H [((5, 4, 0, 1, []), 3), ((12, 0, 15, 0, []), 3)] 56 _ _ _ (by decide +kernel) ?_
        exact ih _ _ _ _ h
theorem ok_Plain_sharedBytes_65_4_p4 {l : Launch} {rv : Int} {rσ : pS} {G : Nat → pL → List pV → pS → Prop} (H : px_R l 2 121 rv rσ G) : ∀ (n : Nat) (a2 a3 : Int) (σ : pS), f_Plain_sharedBytes_65_4_p4 n a2 a3 σ = some (rv, rσ) → G 4 [some (.inr 65), some (.inr 4), some (.inl a2), some (.inl a3), none] [] σ := by
  intro n
  induction n with
  | zero =>
    intro a2 a3 σ h
    unfold f_Plain_sharedBytes_65_4_p4 at h
    cases h
  | succ n ih =>
    intro a2 a3 σ h
    unfold f_Plain_sharedBytes_65_4_p4 at h
    refine H [((1, 3, 0, 0, []), 1), ((2, 1, 0, 0, []), 1), ((16, 4, 11, 0, []), 3), ((13, 3, 68, 0, []), 3), ((0, 0, 0, 0, []), 1), ((3, 4, 0, 0, []), 2)] 4 _ _ _ (by decide +kernel) ?_
    rcases px_ite h with ⟨c1, h⟩ | ⟨c1, h⟩
    · refine And.intro (fun _ => ?_) (fun hn => absurd c1 hn)
      refine H [((1, 2, 0, 0, []), 1), ((27, 0, 0, 0, []), 1)] 68 _ _ _ (by decide +kernel) ?_
      exact Prod.mk.inj (Option.some.inj h)
    · refine And.intro (fun hp => absurd hp c1) (fun _ => ?_)
      exact ok_Plain_sharedBytes_65_4_p15 H ih _ _ _ _ _ h
theorem ok_Plain_sharedBytes_65_4_w {l : Launch} {rv : Int} {rσ : pS} {G : Nat → pL → List pV → pS → Prop} (H : px_R l 2 121 rv rσ G) : ∀ (σ : pS), f_Plain_sharedBytes_65_4  σ = some (rv, rσ) → G 0 [some (.inr 65), some (.inr 4), none, none, none] [] σ := by
  intro  σ h
  unfold f_Plain_sharedBytes_65_4 at h
  refine H [((0, 0, 0, 0, []), 1), ((3, 2, 0, 0, []), 1), ((0, 0, 0, 0, []), 1), ((3, 3, 0, 0, []), 1)] 0 _ _ _ (by decide +kernel) ?_
  exact ok_Plain_sharedBytes_65_4_p4 H _ _ _ _ h
theorem ok_Plain_sharedBytes_65_4 {l : Launch} {σ : pS} {v : Int} {σ1 : pS} (h : f_Plain_sharedBytes_65_4  σ = some (v, σ1)) : Con l 2 121 [.inr 65, .inr 4] σ v σ1 := Con_mk 2 5 rfl (by decide +kernel) (fun _ H => ok_Plain_sharedBytes_65_4_w H  _ h)
theorem ok_X_mix_0_w {l : Launch} {rv : Int} {rσ : pS} {G : Nat → pL → List pV → pS → Prop} (H : px_R l 4 120 rv rσ G) : ∀ (σ : pS), f_X_mix_0  σ = some (rv, rσ) → G 0 [some (.inr 0)] [] σ := by
  intro  σ h
  unfold f_X_mix_0 at h
  refine H [((2, 0, 0, 0, []), 1), ((17, 0, 65, 0, []), 3), ((2, 0, 0, 0, []), 1), ((17, 0, 3, 0, []), 3), ((17, 3, 4, 0, []), 3), ((2, 0, 0, 0, []), 1), ((17, 0, 3, 0, []), 3), ((17, 3, 24, 0, []), 3), ((23, 111, 2, 0, [(0, 65)]), 3), ((2, 0, 0, 0, []), 1), ((17, 0, 65, 0, []), 3), ((2, 0, 0, 0, []), 1), ((17, 0, 3, 0, []), 3), ((17, 3, 4, 0, []), 3), ((23, 121, 1, 1, [(0, 65)]), 3), ((27, 0, 0, 0, []), 1)] 0 _ _ _ (by decide +kernel) ?_
  obtain ⟨⟨vq1, σq1⟩, hq1, h⟩ := px_bind h
  dsimp only at h
  refine Exists.intro 3 (Exists.intro vq1 (Exists.intro σq1 (And.intro (Nat.le_of_ble_eq_true rfl) (And.intro (ok_Plain_go_65_4_24 hq1) ?_))))
  obtain ⟨⟨vq2, σq2⟩, hq2, h⟩ := px_bind h
  dsimp only at h
  refine Exists.intro 2 (Exists.intro vq2 (Exists.intro σq2 (And.intro (Nat.le_of_ble_eq_true rfl) (And.intro (ok_Plain_sharedBytes_65_4 hq2) ?_))))
  exact Prod.mk.inj (Option.some.inj h)
theorem ok_X_mix_0 {l : Launch} {σ : pS} {v : Int} {σ1 : pS} (h : f_X_mix_0  σ = some (v, σ1)) : Con l 4 120 [.inr 0] σ v σ1 := Con_mk 1 1 rfl (by decide +kernel) (fun _ H => ok_X_mix_0_w H  _ h)
theorem ok_M_haveByte_84_p2 {l : Launch} {rv : Int} {rσ : pS} {G : Nat → pL → List pV → pS → Prop} (H : px_R l 0 223 rv rσ G) : ∀ (n : Nat) (a1 a2 a3 : Int) (σ : pS), f_M_haveByte_84_p2 n a1 a2 a3 σ = some (rv, rσ) → G 2 [some (.inr 84), some (.inl a1), some (.inl a2), some (.inl a3)] [] σ := by
  intro n
  induction n with
  | zero =>
    intro a1 a2 a3 σ h
    unfold f_M_haveByte_84_p2 at h
    cases h
  | succ n ih =>
    intro a1 a2 a3 σ h
    unfold f_M_haveByte_84_p2 at h
    refine H [((1, 3, 0, 0, []), 1), ((2, 0, 0, 0, []), 1), ((17, 84, 93, 0, []), 3), ((1, 1, 0, 0, []), 1), ((19, 93, 20, 0, []), 1), ((13, 3, 47, 0, []), 3), ((2, 0, 0, 0, []), 1), ((17, 84, 142, 0, []), 3), ((1, 1, 0, 0, []), 1), ((19, 142, 20, 0, []), 1), ((1, 3, 0, 0, []), 1), ((6, 0, 0, 0, []), 1), ((2, 0, 0, 0, []), 1), ((17, 84, 142, 0, []), 3), ((1, 2, 0, 0, []), 1), ((19, 142, 20, 0, []), 1), ((6, 1, 0, 0, []), 1), ((0, 0, 0, 63, []), 2), ((6, 3, 0, 0, []), 1), ((2, 0, 0, 0, []), 1), ((17, 84, 93, 0, []), 3), ((1, 2, 0, 0, []), 1), ((19, 93, 20, 0, []), 1), ((13, 3, 41, 0, []), 3), ((0, 0, 0, 1, []), 1), ((27, 1, 0, 0, []), 1)] 2 _ _ _ (by decide +kernel) ?_
    obtain ⟨g1, h⟩ := px_gd h
    refine And.intro g1 ?_
    rcases px_ite h with ⟨c2, h⟩ | ⟨c2, h⟩
    · refine And.intro (fun _ => ?_) (fun hn => absurd c2 hn)
      refine H [((0, 0, 0, 0, []), 1), ((27, 1, 0, 0, []), 1)] 47 _ _ _ (by decide +kernel) ?_
      refine And.intro (show (0 : Int) ≤ 0 ∧ (0 : Int) ≤ 1 from by decide) ?_
      exact Prod.mk.inj (Option.some.inj h)
    · refine And.intro (fun hp => absurd hp c2) (fun _ => ?_)
      obtain ⟨g3, h⟩ := px_gd h
      refine And.intro g3 ?_
      obtain ⟨g4, h⟩ := px_gd h
      refine And.intro g4 ?_
      obtain ⟨g5, h⟩ := px_gd h
      refine And.intro g5 ?_
      rcases px_ite h with ⟨c6, h⟩ | ⟨c6, h⟩
      · refine And.intro (fun _ => ?_) (fun hn => absurd c6 hn)
        refine H [((5, 3, 0, 1, []), 3), ((12, 0, 2, 0, []), 3)] 41 _ _ _ (by decide +kernel) ?_
        exact ih _ _ _ _ h
      · refine And.intro (fun hp => absurd hp c6) (fun _ => ?_)
        refine And.intro (show (0 : Int) ≤ 1 ∧ (1 : Int) ≤ 1 from by decide) ?_
        exact Prod.mk.inj (Option.some.inj h)
theorem ok_M_haveByte_84_w {l : Launch} {rv : Int} {rσ : pS} {G : Nat → pL → List pV → pS → Prop} (H : px_R l 0 223 rv rσ G) : ∀ (a1 a2 : Int) (σ : pS), f_M_haveByte_84 a1 a2 σ = some (rv, rσ) → G 0 [some (.inr 84), some (.inl a1), some (.inl a2), none] [] σ := by
  intro a1 a2 σ h
  unfold f_M_haveByte_84 at h
  refine H [((0, 0, 0, 0, []), 1), ((3, 3, 0, 0, []), 1)] 0 _ _ _ (by decide +kernel) ?_
  exact ok_M_haveByte_84_p2 H _ _ _ _ _ h
theorem ok_M_haveByte_84 {l : Launch} {a1 a2 : Int} {σ : pS} {v : Int} {σ1 : pS} (h : f_M_haveByte_84 a1 a2 σ = some (v, σ1)) : Con l 0 223 [.inr 84, .inl a1, .inl a2] σ v σ1 := Con_mk 3 4 rfl (by decide +kernel) (fun _ H => ok_M_haveByte_84_w H _ _ _ h)
theorem ok_M_mix_84_p18 {l : Launch} {rv : Int} {rσ : pS} {G : Nat → pL → List pV → pS → Prop} (H : px_R l 3 222 rv rσ G) {k_8 : Int → Int → pS → Option (Int × pS)} (hk_8 : ∀ (a1 a2 : Int) (σ : pS), k_8 a1 a2 σ = some (rv, rσ) → G 8 [some (.inr 84), some (.inl a1), some (.inl a2), none] [] σ) : ∀ (n : Nat) (a1 a2 a3 : Int) (σ : pS), f_M_mix_84_p18 k_8 n a1 a2 a3 σ = some (rv, rσ) → G 18 [some (.inr 84), some (.inl a1), some (.inl a2), some (.inl a3)] [] σ := by
  intro n
  induction n with
  | zero =>
    intro a1 a2 a3 σ h
    unfold f_M_mix_84_p18 at h
    cases h
  | succ n ih =>
    intro a1 a2 a3 σ h
    unfold f_M_mix_84_p18 at h
    refine H [((1, 3, 0, 0, []), 1), ((1, 2, 0, 0, []), 1), ((13, 3, 62, 0, []), 3), ((2, 0, 0, 0, []), 1), ((17, 84, 88, 0, []), 3), ((1, 2, 0, 0, []), 1), ((19, 88, 20, 0, []), 1), ((0, 0, 0, 2, []), 1), ((13, 1, 56, 0, []), 3), ((2, 0, 0, 0, []), 1), ((17, 84, 88, 0, []), 3), ((1, 3, 0, 0, []), 1), ((19, 88, 20, 0, []), 1), ((0, 0, 0, 3, []), 1), ((13, 1, 56, 0, []), 3), ((2, 0, 0, 0, []), 1), ((1, 2, 0, 0, []), 1), ((1, 3, 0, 0, []), 1), ((23, 223, 2, 1, [(0, 84)]), 3), ((14, 0, 56, 0, []), 3), ((1, 1, 0, 0, []), 1), ((0, 0, 0, 1, []), 1), ((6, 0, 0, 0, []), 1), ((3, 1, 0, 0, []), 1), ((5, 3, 0, 1, []), 3), ((12, 0, 18, 0, []), 3)] 18 _ _ _ (by decide +kernel) ?_
    rcases px_ite h with ⟨c3, h⟩ | ⟨c3, h⟩
    · refine And.intro (fun _ => ?_) (fun hn => absurd c3 hn)
      refine H [((5, 2, 0, 1, []), 3), ((12, 0, 8, 0, []), 3), ((29, 3, 0, 0, []), 0)] 62 _ _ _ (by decide +kernel) ?_
      exact hk_8 _ _ _ h
    · refine And.intro (fun hp => absurd hp c3) (fun _ => ?_)
      obtain ⟨g4, h⟩ := px_gd h
      refine And.intro g4 ?_
      rcases px_ite h with ⟨c5, h⟩ | ⟨c5, h⟩
      · refine And.intro (fun hp => absurd c5 hp) (fun _ => ?_)
        obtain ⟨g6, h⟩ := px_gd h
        refine And.intro g6 ?_
        rcases px_ite h with ⟨c7, h⟩ | ⟨c7, h⟩
        · refine And.intro (fun hp => absurd c7 hp) (fun _ => ?_)
          obtain ⟨⟨vq8, σq8⟩, hq8, h⟩ := px_bind h
          dsimp only at h
          refine Exists.intro 0 (Exists.intro vq8 (Exists.intro σq8 (And.intro (Nat.le_of_ble_eq_true rfl) (And.intro (ok_M_haveByte_84 hq8) ?_))))
          rcases px_ite h with ⟨c9, h⟩ | ⟨c9, h⟩
          · refine And.intro (fun _ => ?_) (fun hn => absurd c9 hn)
            refine H [((5, 3, 0, 1, []), 3), ((12, 0, 18, 0, []), 3)] 56 _ _ _ (by decide +kernel) ?_
            exact ih _ _ _ _ h
          · refine And.intro (fun hp => absurd hp c9) (fun _ => ?_)
            exact ih _ _ _ _ h
        · refine And.intro (fun _ => ?_) (fun hn => absurd c7 hn)
          refine H [((5, 3, 0, 1, []), 3), ((12, 0, 18, 0, []), 3)] 56 _ _ _ (by decide +kernel) ?_
          exact ih _ _ _ _ h
      · refine And.intro (fun _ => ?_) (fun hn => absurd c5 hn)
        refine H [((5, 3, 0, 1, []), 3), ((12, 0, 18, 0, []), 3)] 56 _ _ _ (by decide +kernel) ?_
        exact ih _ _ _ _ h
theorem ok_M_mix_84_p8 {l : Launch} {rv : Int} {rσ : pS} {G : Nat → pL → List pV → pS → Prop} (H : px_R l 3 222 rv rσ G) : ∀ (n : Nat) (a1 a2 : Int) (σ : pS), f_M_mix_84_p8 n a1 a2 σ = some (rv, rσ) → G 8 [some (.inr 84), some (.inl a1), some (.inl a2), none] [] σ := by
  intro n
  induction n with
  | zero =>
    intro a1 a2 σ h
    unfold f_M_mix_84_p8 at h
    cases h
  | succ n ih =>
    intro a1 a2 σ h
    unfold f_M_mix_84_p8 at h
    refine H [((1, 2, 0, 0, []), 1), ((2, 0, 0, 0, []), 1), ((16, 84, 2, 0, []), 3), ((13, 3, 68, 0, []), 3), ((0, 0, 0, 0, []), 1), ((3, 3, 0, 0, []), 1)] 8 _ _ _ (by decide +kernel) ?_
    rcases px_ite h with ⟨c2, h⟩ | ⟨c2, h⟩
    · refine And.intro (fun _ => ?_) (fun hn => absurd c2 hn)
      refine H [((1, 1, 0, 0, []), 1), ((27, 0, 0, 0, []), 1)] 68 _ _ _ (by decide +kernel) ?_
      exact Prod.mk.inj (Option.some.inj h)
    · refine And.intro (fun hp => absurd hp c2) (fun _ => ?_)
      exact ok_M_mix_84_p18 H ih _ _ _ _ _ h
theorem ok_M_mix_84_w {l : Launch} {rv : Int} {rσ : pS} {G : Nat → pL → List pV → pS → Prop} (H : px_R l 3 222 rv rσ G) : ∀ (σ : pS), f_M_mix_84  σ = some (rv, rσ) → G 0 [some (.inr 84), none, none, none] [] σ := by
  intro  σ h
  unfold f_M_mix_84 at h
  refine H [((2, 0, 0, 0, []), 1), ((23, 219, 0, 0, [(0, 84)]), 3), ((0, 0, 0, 0, []), 1), ((3, 1, 0, 0, []), 1), ((0, 0, 0, 0, []), 1), ((3, 2, 0, 0, []), 1)] 0 _ _ _ (by decide +kernel) ?_
  obtain ⟨⟨vq1, σq1⟩, hq1, h⟩ := px_bind h
  dsimp only at h
  refine Exists.intro 2 (Exists.intro vq1 (Exists.intro σq1 (And.intro (Nat.le_of_ble_eq_true rfl) (And.intro (ok_M_goesPlain_84 hq1) ?_))))
  exact ok_M_mix_84_p8 H _ _ _ _ h
theorem ok_M_mix_84 {l : Launch} {σ : pS} {v : Int} {σ1 : pS} (h : f_M_mix_84  σ = some (v, σ1)) : Con l 3 222 [.inr 84] σ v σ1 := Con_mk 1 4 rfl (by decide +kernel) (fun _ H => ok_M_mix_84_w H  _ h)
theorem ok_Rows_put_82_w {l : Launch} {rv : Int} {rσ : pS} {G : Nat → pL → List pV → pS → Prop} (H : px_R l 0 124 rv rσ G) : ∀ (a1 a2 : Int) (σ : pS), f_Rows_put_82 a1 a2 σ = some (rv, rσ) → G 0 [some (.inr 82), some (.inl a1), some (.inl a2)] [] σ := by
  intro a1 a2 σ h
  unfold f_Rows_put_82 at h
  refine H [((2, 0, 0, 0, []), 1), ((17, 82, 83, 0, []), 3), ((1, 1, 0, 0, []), 1), ((19, 83, 2, 0, []), 1), ((0, 0, 0, 8, []), 2), ((13, 3, 35, 0, []), 3), ((2, 0, 0, 0, []), 1), ((17, 82, 149, 0, []), 3), ((1, 1, 0, 0, []), 1), ((22, 149, 2, 150, []), 1)] 0 _ _ _ (by decide +kernel) ?_
  obtain ⟨g1, h⟩ := px_gd h
  refine And.intro g1 ?_
  rcases px_ite h with ⟨c2, h⟩ | ⟨c2, h⟩
  · refine And.intro (fun _ => ?_) (fun hn => absurd c2 hn)
    refine H [((2, 0, 0, 0, []), 1), ((17, 82, 83, 0, []), 3), ((1, 1, 0, 0, []), 1), ((19, 83, 2, 0, []), 1), ((27, 0, 0, 0, []), 1)] 35 _ _ _ (by decide +kernel) ?_
    obtain ⟨g3, h⟩ := px_gd h
    refine And.intro g3 ?_
    exact Prod.mk.inj (Option.some.inj h)
  · refine And.intro (fun hp => absurd hp c2) (fun _ => ?_)
    obtain ⟨g4, h⟩ := px_gd h
    refine And.intro g4 (fun qq hqq (e : a1 = (qq : Int)) => ?_)
    rcases px_ite h with ⟨c5, h⟩ | ⟨c5, h⟩
    · have hz : qq = 0 := by omega
      subst hz
      refine H [((2, 0, 0, 0, []), 1), ((17, 82, 83, 0, []), 3), ((1, 1, 0, 0, []), 1), ((19, 83, 2, 0, []), 1), ((1, 2, 0, 0, []), 1), ((20, 150, 8, 0, []), 1), ((2, 0, 0, 0, []), 1), ((17, 82, 83, 0, []), 3), ((1, 1, 0, 0, []), 1), ((10, 0, 0, 0, []), 1), ((19, 83, 2, 0, []), 1), ((0, 0, 0, 1, []), 1), ((6, 0, 0, 0, []), 1), ((20, 83, 2, 0, []), 1), ((2, 0, 0, 0, []), 1), ((17, 82, 83, 0, []), 3), ((1, 1, 0, 0, []), 1), ((19, 83, 2, 0, []), 1), ((27, 0, 0, 0, []), 1)] 17 _ _ _ (by decide +kernel) ?_
      obtain ⟨g6, h⟩ := px_gd h
      refine And.intro g6 ?_
      obtain ⟨g7, h⟩ := px_gd h
      refine And.intro g7 ?_
      obtain ⟨g8, h⟩ := px_gd h
      refine And.intro g8 ?_
      obtain ⟨g9, h⟩ := px_gd h
      refine And.intro g9 ?_
      obtain ⟨g10, h⟩ := px_gd h
      refine And.intro g10 ?_
      exact Prod.mk.inj (Option.some.inj h)
    · have hz : qq = 1 := by omega
      subst hz
      refine H [((2, 0, 0, 0, []), 1), ((17, 82, 83, 0, []), 3), ((1, 1, 0, 0, []), 1), ((19, 83, 2, 0, []), 1), ((1, 2, 0, 0, []), 1), ((20, 151, 8, 0, []), 1), ((2, 0, 0, 0, []), 1), ((17, 82, 83, 0, []), 3), ((1, 1, 0, 0, []), 1), ((10, 0, 0, 0, []), 1), ((19, 83, 2, 0, []), 1), ((0, 0, 0, 1, []), 1), ((6, 0, 0, 0, []), 1), ((20, 83, 2, 0, []), 1), ((2, 0, 0, 0, []), 1), ((17, 82, 83, 0, []), 3), ((1, 1, 0, 0, []), 1), ((19, 83, 2, 0, []), 1), ((27, 0, 0, 0, []), 1)] 17 _ _ _ (by decide +kernel) ?_
      obtain ⟨g11, h⟩ := px_gd h
      refine And.intro g11 ?_
      obtain ⟨g12, h⟩ := px_gd h
      refine And.intro g12 ?_
      obtain ⟨g13, h⟩ := px_gd h
      refine And.intro g13 ?_
      obtain ⟨g14, h⟩ := px_gd h
      refine And.intro g14 ?_
      obtain ⟨g15, h⟩ := px_gd h
      refine And.intro g15 ?_
      exact Prod.mk.inj (Option.some.inj h)
theorem ok_Rows_put_82 {l : Launch} {a1 a2 : Int} {σ : pS} {v : Int} {σ1 : pS} (h : f_Rows_put_82 a1 a2 σ = some (v, σ1)) : Con l 0 124 [.inr 82, .inl a1, .inl a2] σ v σ1 := Con_mk 3 3 rfl (by decide +kernel) (fun _ H => ok_Rows_put_82_w H _ _ _ h)
theorem ok_X_watch_0_p59 {l : Launch} {rv : Int} {rσ : pS} {G : Nat → pL → List pV → pS → Prop} (H : px_R l 1 123 rv rσ G) : ∀ (a1 a2 s0 s1 : Int) (σ : pS), f_X_watch_0_p59 a1 a2 s0 s1 σ = some (rv, rσ) → G 59 [some (.inr 0), some (.inl a1), some (.inl a2)] [.inl s0, .inl s1] σ := by
  intro a1 a2 s0 s1 σ h
  unfold f_X_watch_0_p59 at h
  refine H [((13, 0, 87, 0, []), 3), ((2, 0, 0, 0, []), 1), ((17, 0, 82, 0, []), 3), ((0, 0, 0, 9999, []), 3), ((2, 0, 0, 0, []), 1), ((17, 0, 82, 0, []), 3), ((16, 82, 2, 0, []), 3), ((0, 0, 0, 1, []), 1), ((6, 0, 0, 0, []), 1), ((25, 0, 0, 0, []), 3), ((18, 82, 2, 0, []), 3), ((0, 0, 0, (-7), []), 2), ((27, 0, 0, 0, []), 1)] 59 _ _ _ (by decide +kernel) ?_
  rcases px_ite h with ⟨c9, h⟩ | ⟨c9, h⟩
  · refine And.intro (fun _ => ?_) (fun hn => absurd c9 hn)
    refine H [((2, 0, 0, 0, []), 1), ((17, 0, 82, 0, []), 3), ((1, 1, 0, 0, []), 1), ((1, 2, 0, 0, []), 1), ((23, 124, 2, 1, [(0, 82)]), 3), ((27, 0, 0, 0, []), 1)] 87 _ _ _ (by decide +kernel) ?_
    obtain ⟨⟨vq10, σq10⟩, hq10, h⟩ := px_bind h
    dsimp only at h
    refine Exists.intro 0 (Exists.intro vq10 (Exists.intro σq10 (And.intro (Nat.le_of_ble_eq_true rfl) (And.intro (ok_Rows_put_82 hq10) ?_))))
    exact Prod.mk.inj (Option.some.inj h)
  · refine And.intro (fun hp => absurd hp c9) (fun _ => ?_)
    exact Prod.mk.inj (Option.some.inj h)
theorem ok_X_watch_0_w {l : Launch} {rv : Int} {rσ : pS} {G : Nat → pL → List pV → pS → Prop} (H : px_R l 1 123 rv rσ G) : ∀ (a1 a2 : Int) (σ : pS), f_X_watch_0 a1 a2 σ = some (rv, rσ) → G 0 [some (.inr 0), some (.inl a1), some (.inl a2)] [] σ := by
  intro a1 a2 σ h
  unfold f_X_watch_0 at h
  refine H [((1, 1, 0, 0, []), 1), ((14, 2, 9, 0, []), 3), ((1, 1, 0, 0, []), 1), ((0, 0, 0, 2, []), 1), ((13, 2, 11, 0, []), 3), ((0, 0, 0, (-1), []), 1), ((27, 0, 0, 0, []), 1)] 0 _ _ _ (by decide +kernel) ?_
  rcases px_ite h with ⟨c1, h⟩ | ⟨c1, h⟩
  · refine And.intro (fun _ => ?_) (fun hn => absurd c1 hn)
    refine H [((0, 0, 0, (-1), []), 1), ((27, 0, 0, 0, []), 1)] 9 _ _ _ (by decide +kernel) ?_
    exact Prod.mk.inj (Option.some.inj h)
  · refine And.intro (fun hp => absurd hp c1) (fun _ => ?_)
    rcases px_ite h with ⟨c2, h⟩ | ⟨c2, h⟩
    · refine And.intro (fun _ => ?_) (fun hn => absurd c2 hn)
      refine H [((2, 0, 0, 0, []), 1), ((17, 0, 82, 0, []), 3), ((17, 82, 83, 0, []), 3), ((1, 1, 0, 0, []), 1), ((19, 83, 2, 0, []), 1), ((0, 0, 0, 8, []), 2), ((13, 2, 28, 0, []), 3), ((0, 0, 0, (-3), []), 2), ((27, 0, 0, 0, []), 1)] 11 _ _ _ (by decide +kernel) ?_
      obtain ⟨g3, h⟩ := px_gd h
      refine And.intro g3 ?_
      rcases px_ite h with ⟨c4, h⟩ | ⟨c4, h⟩
      · refine And.intro (fun _ => ?_) (fun hn => absurd c4 hn)
        refine H [((2, 0, 0, 0, []), 1), ((1, 2, 0, 0, []), 1), ((23, 104, 1, 1, [(0, 0)]), 3), ((14, 1, 38, 0, []), 3), ((0, 0, 0, (-1), []), 1), ((27, 0, 0, 0, []), 1)] 28 _ _ _ (by decide +kernel) ?_
        obtain ⟨⟨vq5, σq5⟩, hq5, h⟩ := px_bind h
        dsimp only at h
        refine Exists.intro 0 (Exists.intro vq5 (Exists.intro σq5 (And.intro (Nat.le_of_ble_eq_true rfl) (And.intro (ok_X_isOp_0 hq5) ?_))))
        rcases px_ite h with ⟨c6, h⟩ | ⟨c6, h⟩
        · refine And.intro (fun hp => absurd c6 hp) (fun _ => ?_)
          exact Prod.mk.inj (Option.some.inj h)
        · refine And.intro (fun _ => ?_) (fun hn => absurd c6 hn)
          refine H [((2, 0, 0, 0, []), 1), ((17, 0, 3, 0, []), 3), ((17, 3, 4, 0, []), 3), ((17, 4, 5, 0, []), 3), ((1, 2, 0, 0, []), 1), ((19, 5, 20, 0, []), 1), ((1, 1, 0, 0, []), 1), ((14, 1, 58, 0, []), 3), ((0, 0, 0, 2, []), 1), ((12, 0, 59, 0, []), 3)] 38 _ _ _ (by decide +kernel) ?_
          obtain ⟨g7, h⟩ := px_gd h
          refine And.intro g7 ?_
          rcases px_ite h with ⟨c8, h⟩ | ⟨c8, h⟩
          · refine And.intro (fun hp => absurd c8 hp) (fun _ => ?_)
            exact ok_X_watch_0_p59 H _ _ _ _ _ h
          · refine And.intro (fun _ => ?_) (fun hn => absurd c8 hn)
            refine H [((0, 0, 0, 3, []), 1)] 58 _ _ _ (by decide +kernel) ?_
            exact ok_X_watch_0_p59 H _ _ _ _ _ h
      · refine And.intro (fun hp => absurd hp c4) (fun _ => ?_)
        exact Prod.mk.inj (Option.some.inj h)
    · refine And.intro (fun hp => absurd hp c2) (fun _ => ?_)
      exact Prod.mk.inj (Option.some.inj h)
theorem ok_X_watch_0 {l : Launch} {a1 a2 : Int} {σ : pS} {v : Int} {σ1 : pS} (h : f_X_watch_0 a1 a2 σ = some (v, σ1)) : Con l 1 123 [.inr 0, .inl a1, .inl a2] σ v σ1 := Con_mk 3 3 rfl (by decide +kernel) (fun _ H => ok_X_watch_0_w H _ _ _ h)
theorem ok_M_watch_84_w {l : Launch} {rv : Int} {rσ : pS} {G : Nat → pL → List pV → pS → Prop} (H : px_R l 2 230 rv rσ G) : ∀ (a1 a2 : Int) (σ : pS), f_M_watch_84 a1 a2 σ = some (rv, rσ) → G 0 [some (.inr 84), some (.inl a1), some (.inl a2), none] [] σ := by
  intro a1 a2 σ h
  unfold f_M_watch_84 at h
  refine H [((1, 1, 0, 0, []), 1), ((0, 0, 0, 0, []), 1), ((0, 0, 0, 1, []), 1), ((24, 137, 3, 1, []), 3), ((14, 0, 17, 0, []), 3), ((2, 0, 0, 0, []), 1), ((1, 2, 0, 0, []), 1), ((23, 171, 1, 1, [(0, 84)]), 3), ((14, 1, 19, 0, []), 3), ((0, 0, 0, (-1), []), 1), ((27, 0, 0, 0, []), 1)] 0 _ _ _ (by decide +kernel) ?_
  obtain ⟨⟨vq1, σq1⟩, hq1, h⟩ := px_bind h
  dsimp only at h
  refine Exists.intro 0 (Exists.intro vq1 (Exists.intro σq1 (And.intro (Nat.le_of_ble_eq_true rfl) (And.intro (ok_M_in hq1) ?_))))
  rcases px_ite h with ⟨c2, h⟩ | ⟨c2, h⟩
  · refine And.intro (fun _ => ?_) (fun hn => absurd c2 hn)
    refine H [((0, 0, 0, (-1), []), 1), ((27, 0, 0, 0, []), 1)] 17 _ _ _ (by decide +kernel) ?_
    exact Prod.mk.inj (Option.some.inj h)
  · refine And.intro (fun hp => absurd hp c2) (fun _ => ?_)
    obtain ⟨⟨vq3, σq3⟩, hq3, h⟩ := px_bind h
    dsimp only at h
    refine Exists.intro 1 (Exists.intro vq3 (Exists.intro σq3 (And.intro (Nat.le_of_ble_eq_true rfl) (And.intro (ok_M_isOp_84 hq3) ?_))))
    rcases px_ite h with ⟨c4, h⟩ | ⟨c4, h⟩
    · refine And.intro (fun hp => absurd c4 hp) (fun _ => ?_)
      exact Prod.mk.inj (Option.some.inj h)
    · refine And.intro (fun _ => ?_) (fun hn => absurd c4 hn)
      refine H [((2, 0, 0, 0, []), 1), ((17, 84, 145, 0, []), 3), ((1, 1, 0, 0, []), 1), ((19, 145, 2, 0, []), 1), ((3, 3, 0, 0, []), 1), ((1, 3, 0, 0, []), 1), ((0, 0, 0, 8, []), 2), ((13, 1, 35, 0, []), 3), ((0, 0, 0, (-3), []), 2), ((27, 0, 0, 0, []), 1)] 19 _ _ _ (by decide +kernel) ?_
      obtain ⟨g5, h⟩ := px_gd h
      refine And.intro g5 ?_
      rcases px_ite h with ⟨c6, h⟩ | ⟨c6, h⟩
      · refine And.intro (fun hp => absurd c6 hp) (fun _ => ?_)
        exact Prod.mk.inj (Option.some.inj h)
      · refine And.intro (fun _ => ?_) (fun hn => absurd c6 hn)
        refine H [((2, 0, 0, 0, []), 1), ((17, 84, 88, 0, []), 3), ((1, 2, 0, 0, []), 1), ((19, 88, 20, 0, []), 1), ((0, 0, 0, 2, []), 1), ((1, 1, 0, 0, []), 1), ((6, 0, 0, 0, []), 1), ((13, 0, 66, 0, []), 3), ((2, 0, 0, 0, []), 1), ((0, 0, 0, 9999, []), 3), ((2, 0, 0, 0, []), 1), ((16, 84, 4, 0, []), 3), ((0, 0, 0, 1, []), 1), ((6, 0, 0, 0, []), 1), ((24, 190, 2, 1, []), 3), ((18, 84, 4, 0, []), 3), ((0, 0, 0, (-7), []), 2), ((27, 0, 0, 0, []), 1)] 35 _ _ _ (by decide +kernel) ?_
        obtain ⟨g7, h⟩ := px_gd h
        refine And.intro g7 ?_
        rcases px_ite h with ⟨c8, h⟩ | ⟨c8, h⟩
        · refine And.intro (fun _ => ?_) (fun hn => absurd c8 hn)
          refine H [((2, 0, 0, 0, []), 1), ((17, 84, 144, 0, []), 3), ((0, 0, 0, 8, []), 2), ((1, 1, 0, 0, []), 1), ((6, 2, 0, 0, []), 1), ((1, 3, 0, 0, []), 1), ((6, 0, 0, 0, []), 1), ((1, 2, 0, 0, []), 1), ((20, 144, 16, 0, []), 1), ((2, 0, 0, 0, []), 1), ((17, 84, 145, 0, []), 3), ((1, 1, 0, 0, []), 1), ((1, 3, 0, 0, []), 1), ((0, 0, 0, 1, []), 1), ((6, 0, 0, 0, []), 1), ((20, 145, 2, 0, []), 1), ((1, 3, 0, 0, []), 1), ((0, 0, 0, 1, []), 1), ((6, 0, 0, 0, []), 1), ((27, 0, 0, 0, []), 1)] 66 _ _ _ (by decide +kernel) ?_
          obtain ⟨g9, h⟩ := px_gd h
          refine And.intro g9 ?_
          obtain ⟨g10, h⟩ := px_gd h
          refine And.intro g10 ?_
          exact Prod.mk.inj (Option.some.inj h)
        · refine And.intro (fun hp => absurd hp c8) (fun _ => ?_)
          obtain ⟨⟨vq11, σq11⟩, hq11, h⟩ := px_bind h
          dsimp only at h
          refine Exists.intro 0 (Exists.intro vq11 (Exists.intro σq11 (And.intro (Nat.le_of_ble_eq_true rfl) (And.intro (ok_M_min hq11) ?_))))
          exact Prod.mk.inj (Option.some.inj h)
theorem ok_M_watch_84 {l : Launch} {a1 a2 : Int} {σ : pS} {v : Int} {σ1 : pS} (h : f_M_watch_84 a1 a2 σ = some (v, σ1)) : Con l 2 230 [.inr 84, .inl a1, .inl a2] σ v σ1 := Con_mk 3 4 rfl (by decide +kernel) (fun _ H => ok_M_watch_84_w H _ _ _ h)
theorem ok_X_watched_0_w {l : Launch} {rv : Int} {rσ : pS} {G : Nat → pL → List pV → pS → Prop} (H : px_R l 3 125 rv rσ G) : ∀ (a1 a2 a3 : Int) (σ : pS), f_X_watched_0 a1 a2 a3 σ = some (rv, rσ) → G 0 [some (.inr 0), some (.inl a1), some (.inl a2), some (.inl a3), none] [] σ := by
  intro a1 a2 a3 σ h
  unfold f_X_watched_0 at h
  refine H [((1, 1, 0, 0, []), 1), ((14, 2, 23, 0, []), 3), ((1, 1, 0, 0, []), 1), ((0, 0, 0, 2, []), 1), ((13, 3, 23, 0, []), 3), ((1, 2, 0, 0, []), 1), ((14, 2, 23, 0, []), 3), ((1, 3, 0, 0, []), 1), ((14, 2, 23, 0, []), 3), ((1, 3, 0, 0, []), 1), ((0, 0, 0, 6, []), 2), ((13, 5, 26, 0, []), 3), ((0, 0, 0, (-100000), []), 2), ((27, 0, 0, 0, []), 1)] 0 _ _ _ (by decide +kernel) ?_
  rcases px_ite h with ⟨c1, h⟩ | ⟨c1, h⟩
  · refine And.intro (fun _ => ?_) (fun hn => absurd c1 hn)
    refine H [((0, 0, 0, (-100000), []), 2), ((27, 0, 0, 0, []), 1)] 23 _ _ _ (by decide +kernel) ?_
    exact Prod.mk.inj (Option.some.inj h)
  · refine And.intro (fun hp => absurd hp c1) (fun _ => ?_)
    rcases px_ite h with ⟨c2, h⟩ | ⟨c2, h⟩
    · refine And.intro (fun _ => ?_) (fun hn => absurd c2 hn)
      refine H [((0, 0, 0, (-100000), []), 2), ((27, 0, 0, 0, []), 1)] 23 _ _ _ (by decide +kernel) ?_
      exact Prod.mk.inj (Option.some.inj h)
    · refine And.intro (fun hp => absurd hp c2) (fun _ => ?_)
      rcases px_ite h with ⟨c3, h⟩ | ⟨c3, h⟩
      · refine And.intro (fun _ => ?_) (fun hn => absurd c3 hn)
        refine H [((0, 0, 0, (-100000), []), 2), ((27, 0, 0, 0, []), 1)] 23 _ _ _ (by decide +kernel) ?_
        exact Prod.mk.inj (Option.some.inj h)
      · refine And.intro (fun hp => absurd hp c3) (fun _ => ?_)
        rcases px_ite h with ⟨c4, h⟩ | ⟨c4, h⟩
        · refine And.intro (fun _ => ?_) (fun hn => absurd c4 hn)
          refine H [((0, 0, 0, (-100000), []), 2), ((27, 0, 0, 0, []), 1)] 23 _ _ _ (by decide +kernel) ?_
          exact Prod.mk.inj (Option.some.inj h)
        · refine And.intro (fun hp => absurd hp c4) (fun _ => ?_)
          rcases px_ite h with ⟨c5, h⟩ | ⟨c5, h⟩
          · refine And.intro (fun _ => ?_) (fun hn => absurd c5 hn)
            refine H [((1, 2, 0, 0, []), 1), ((2, 0, 0, 0, []), 1), ((17, 0, 82, 0, []), 3), ((17, 82, 83, 0, []), 3), ((1, 1, 0, 0, []), 1), ((19, 83, 2, 0, []), 1), ((13, 3, 45, 0, []), 3), ((1, 2, 0, 0, []), 1), ((0, 0, 0, 8, []), 2), ((13, 2, 48, 0, []), 3), ((0, 0, 0, (-4), []), 2), ((27, 0, 0, 0, []), 1)] 26 _ _ _ (by decide +kernel) ?_
            obtain ⟨g6, h⟩ := px_gd h
            refine And.intro g6 ?_
            rcases px_ite h with ⟨c7, h⟩ | ⟨c7, h⟩
            · refine And.intro (fun _ => ?_) (fun hn => absurd c7 hn)
              refine H [((0, 0, 0, (-4), []), 2), ((27, 0, 0, 0, []), 1)] 45 _ _ _ (by decide +kernel) ?_
              exact Prod.mk.inj (Option.some.inj h)
            · refine And.intro (fun hp => absurd hp c7) (fun _ => ?_)
              rcases px_ite h with ⟨c8, h⟩ | ⟨c8, h⟩
              · refine And.intro (fun _ => ?_) (fun hn => absurd c8 hn)
                refine H [((2, 0, 0, 0, []), 1), ((17, 0, 82, 0, []), 3), ((17, 82, 149, 0, []), 3), ((1, 1, 0, 0, []), 1), ((22, 149, 2, 150, []), 1)] 48 _ _ _ (by decide +kernel) ?_
                obtain ⟨g9, h⟩ := px_gd h
                refine And.intro g9 (fun qq hqq (e : a1 = (qq : Int)) => ?_)
                rcases px_ite h with ⟨c10, h⟩ | ⟨c10, h⟩
                · have hz : qq = 0 := by omega
                  subst hz
                  refine H [((1, 2, 0, 0, []), 1), ((19, 150, 8, 0, []), 1), ((3, 4, 0, 0, []), 2), ((1, 3, 0, 0, []), 1), ((0, 0, 0, 6, []), 2), ((13, 1, 72, 0, []), 3), ((1, 4, 0, 0, []), 2), ((12, 0, 79, 0, []), 3), ((27, 0, 0, 0, []), 1)] 57 _ _ _ (by decide +kernel) ?_
                  obtain ⟨g11, h⟩ := px_gd h
                  refine And.intro g11 ?_
                  rcases px_ite h with ⟨c12, h⟩ | ⟨c12, h⟩
                  · refine And.intro (fun hp => absurd c12 hp) (fun _ => ?_)
                    exact Prod.mk.inj (Option.some.inj h)
                  · refine And.intro (fun _ => ?_) (fun hn => absurd c12 hn)
                    refine H [((2, 0, 0, 0, []), 1), ((1, 4, 0, 0, []), 2), ((1, 3, 0, 0, []), 1), ((23, 103, 2, 1, [(0, 0)]), 3), ((27, 0, 0, 0, []), 1)] 72 _ _ _ (by decide +kernel) ?_
                    obtain ⟨⟨vq13, σq13⟩, hq13, h⟩ := px_bind h
                    dsimp only at h
                    refine Exists.intro 2 (Exists.intro vq13 (Exists.intro σq13 (And.intro (Nat.le_of_ble_eq_true rfl) (And.intro (ok_X_opIs_0 hq13) ?_))))
                    exact Prod.mk.inj (Option.some.inj h)
                · have hz : qq = 1 := by omega
                  subst hz
                  refine H [((1, 2, 0, 0, []), 1), ((19, 151, 8, 0, []), 1), ((3, 4, 0, 0, []), 2), ((1, 3, 0, 0, []), 1), ((0, 0, 0, 6, []), 2), ((13, 1, 72, 0, []), 3), ((1, 4, 0, 0, []), 2), ((12, 0, 79, 0, []), 3), ((27, 0, 0, 0, []), 1)] 57 _ _ _ (by decide +kernel) ?_
                  obtain ⟨g14, h⟩ := px_gd h
                  refine And.intro g14 ?_
                  rcases px_ite h with ⟨c15, h⟩ | ⟨c15, h⟩
                  · refine And.intro (fun hp => absurd c15 hp) (fun _ => ?_)
                    exact Prod.mk.inj (Option.some.inj h)
                  · refine And.intro (fun _ => ?_) (fun hn => absurd c15 hn)
                    refine H [((2, 0, 0, 0, []), 1), ((1, 4, 0, 0, []), 2), ((1, 3, 0, 0, []), 1), ((23, 103, 2, 1, [(0, 0)]), 3), ((27, 0, 0, 0, []), 1)] 72 _ _ _ (by decide +kernel) ?_
                    obtain ⟨⟨vq16, σq16⟩, hq16, h⟩ := px_bind h
                    dsimp only at h
                    refine Exists.intro 2 (Exists.intro vq16 (Exists.intro σq16 (And.intro (Nat.le_of_ble_eq_true rfl) (And.intro (ok_X_opIs_0 hq16) ?_))))
                    exact Prod.mk.inj (Option.some.inj h)
              · refine And.intro (fun hp => absurd hp c8) (fun _ => ?_)
                exact Prod.mk.inj (Option.some.inj h)
          · refine And.intro (fun hp => absurd hp c5) (fun _ => ?_)
            exact Prod.mk.inj (Option.some.inj h)
theorem ok_X_watched_0 {l : Launch} {a1 a2 a3 : Int} {σ : pS} {v : Int} {σ1 : pS} (h : f_X_watched_0 a1 a2 a3 σ = some (v, σ1)) : Con l 3 125 [.inr 0, .inl a1, .inl a2, .inl a3] σ v σ1 := Con_mk 4 5 rfl (by decide +kernel) (fun _ H => ok_X_watched_0_w H _ _ _ _ h)
theorem ok_M_watched_84_w {l : Launch} {rv : Int} {rσ : pS} {G : Nat → pL → List pV → pS → Prop} (H : px_R l 1 231 rv rσ G) : ∀ (a1 a2 a3 : Int) (σ : pS), f_M_watched_84 a1 a2 a3 σ = some (rv, rσ) → G 0 [some (.inr 84), some (.inl a1), some (.inl a2), some (.inl a3), none] [] σ := by
  intro a1 a2 a3 σ h
  unfold f_M_watched_84 at h
  refine H [((1, 1, 0, 0, []), 1), ((0, 0, 0, 0, []), 1), ((0, 0, 0, 1, []), 1), ((24, 137, 3, 1, []), 3), ((14, 0, 23, 0, []), 3), ((1, 2, 0, 0, []), 1), ((14, 2, 23, 0, []), 3), ((1, 3, 0, 0, []), 1), ((0, 0, 0, 0, []), 1), ((0, 0, 0, 6, []), 2), ((24, 137, 3, 1, []), 3), ((14, 1, 27, 0, []), 3), ((0, 0, 0, (-100000), []), 3), ((27, 0, 0, 0, []), 1)] 0 _ _ _ (by decide +kernel) ?_
  obtain ⟨⟨vq1, σq1⟩, hq1, h⟩ := px_bind h
  dsimp only at h
  refine Exists.intro 0 (Exists.intro vq1 (Exists.intro σq1 (And.intro (Nat.le_of_ble_eq_true rfl) (And.intro (ok_M_in hq1) ?_))))
  rcases px_ite h with ⟨c2, h⟩ | ⟨c2, h⟩
  · refine And.intro (fun _ => ?_) (fun hn => absurd c2 hn)
    refine H [((0, 0, 0, (-100000), []), 3), ((27, 0, 0, 0, []), 1)] 23 _ _ _ (by decide +kernel) ?_
    exact Prod.mk.inj (Option.some.inj h)
  · refine And.intro (fun hp => absurd hp c2) (fun _ => ?_)
    rcases px_ite h with ⟨c3, h⟩ | ⟨c3, h⟩
    · refine And.intro (fun _ => ?_) (fun hn => absurd c3 hn)
      refine H [((0, 0, 0, (-100000), []), 3), ((27, 0, 0, 0, []), 1)] 23 _ _ _ (by decide +kernel) ?_
      exact Prod.mk.inj (Option.some.inj h)
    · refine And.intro (fun hp => absurd hp c3) (fun _ => ?_)
      obtain ⟨⟨vq4, σq4⟩, hq4, h⟩ := px_bind h
      dsimp only at h
      refine Exists.intro 0 (Exists.intro vq4 (Exists.intro σq4 (And.intro (Nat.le_of_ble_eq_true rfl) (And.intro (ok_M_in hq4) ?_))))
      rcases px_ite h with ⟨c5, h⟩ | ⟨c5, h⟩
      · refine And.intro (fun hp => absurd c5 hp) (fun _ => ?_)
        exact Prod.mk.inj (Option.some.inj h)
      · refine And.intro (fun _ => ?_) (fun hn => absurd c5 hn)
        refine H [((1, 2, 0, 0, []), 1), ((2, 0, 0, 0, []), 1), ((17, 84, 145, 0, []), 3), ((1, 1, 0, 0, []), 1), ((19, 145, 2, 0, []), 1), ((13, 2, 40, 0, []), 3), ((0, 0, 0, (-4), []), 2), ((27, 0, 0, 0, []), 1)] 27 _ _ _ (by decide +kernel) ?_
        obtain ⟨g6, h⟩ := px_gd h
        refine And.intro g6 ?_
        rcases px_ite h with ⟨c7, h⟩ | ⟨c7, h⟩
        · refine And.intro (fun _ => ?_) (fun hn => absurd c7 hn)
          refine H [((2, 0, 0, 0, []), 1), ((17, 84, 144, 0, []), 3), ((0, 0, 0, 8, []), 2), ((1, 1, 0, 0, []), 1), ((6, 2, 0, 0, []), 1), ((1, 2, 0, 0, []), 1), ((6, 0, 0, 0, []), 1), ((19, 144, 16, 0, []), 1), ((3, 4, 0, 0, []), 2), ((1, 3, 0, 0, []), 1), ((0, 0, 0, 6, []), 2), ((13, 1, 64, 0, []), 3), ((1, 4, 0, 0, []), 2), ((12, 0, 71, 0, []), 3), ((27, 0, 0, 0, []), 1)] 40 _ _ _ (by decide +kernel) ?_
          obtain ⟨g8, h⟩ := px_gd h
          refine And.intro g8 ?_
          rcases px_ite h with ⟨c9, h⟩ | ⟨c9, h⟩
          · refine And.intro (fun hp => absurd c9 hp) (fun _ => ?_)
            exact Prod.mk.inj (Option.some.inj h)
          · refine And.intro (fun _ => ?_) (fun hn => absurd c9 hn)
            refine H [((2, 0, 0, 0, []), 1), ((1, 4, 0, 0, []), 2), ((1, 3, 0, 0, []), 1), ((23, 227, 2, 1, [(0, 84)]), 3), ((27, 0, 0, 0, []), 1)] 64 _ _ _ (by decide +kernel) ?_
            obtain ⟨⟨vq10, σq10⟩, hq10, h⟩ := px_bind h
            dsimp only at h
            refine Exists.intro 0 (Exists.intro vq10 (Exists.intro σq10 (And.intro (Nat.le_of_ble_eq_true rfl) (And.intro (ok_M_toldOfOp_84 hq10) ?_))))
            exact Prod.mk.inj (Option.some.inj h)
        · refine And.intro (fun hp => absurd hp c7) (fun _ => ?_)
          exact Prod.mk.inj (Option.some.inj h)
theorem ok_M_watched_84 {l : Launch} {a1 a2 a3 : Int} {σ : pS} {v : Int} {σ1 : pS} (h : f_M_watched_84 a1 a2 a3 σ = some (v, σ1)) : Con l 1 231 [.inr 84, .inl a1, .inl a2, .inl a3] σ v σ1 := Con_mk 4 5 rfl (by decide +kernel) (fun _ H => ok_M_watched_84_w H _ _ _ _ h)
