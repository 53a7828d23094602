theorem ok_Mach_youngestCovering_3_p4 {l : Launch} {rv : Int} {rσ : pS} {G : Nat → pL → List pV → pS → Prop} (H : px_R l 1 69 rv rσ G) : ∀ (n : Nat) (a2 a3 : Int) (σ : pS), f_Mach_youngestCovering_3_p4 n a2 a3 σ = some (rv, rσ) → G 4 [some (.inr 3), none, some (.inl a2), some (.inl a3)] [] σ := by
  intro n
  induction n with
  | zero =>
    intro a2 a3 σ h
    unfold f_Mach_youngestCovering_3_p4 at h
    cases h
  | succ n ih =>
    intro a2 a3 σ h
    unfold f_Mach_youngestCovering_3_p4 at h
    refine H [((1, 3, 0, 0, []), 1), ((14, 2, 64, 0, []), 3), ((2, 0, 0, 0, []), 1), ((17, 3, 4, 0, []), 3), ((17, 4, 5, 0, []), 3), ((1, 3, 0, 0, []), 1), ((19, 5, 20, 0, []), 1), ((0, 0, 0, 3, []), 1), ((13, 1, 58, 0, []), 3), ((2, 0, 0, 0, []), 1), ((17, 3, 39, 0, []), 3), ((1, 3, 0, 0, []), 1), ((19, 39, 20, 0, []), 1), ((0, 0, 0, 2, []), 1), ((13, 1, 58, 0, []), 3), ((2, 0, 0, 0, []), 1), ((17, 3, 32, 0, []), 3), ((17, 32, 37, 0, []), 3), ((1, 3, 0, 0, []), 1), ((19, 37, 20, 0, []), 1), ((2, 0, 0, 0, []), 1), ((17, 3, 4, 0, []), 3), ((17, 4, 7, 0, []), 3), ((1, 3, 0, 0, []), 1), ((19, 7, 20, 0, []), 1), ((1, 2, 0, 0, []), 1), ((24, 70, 3, 1, []), 3), ((14, 0, 58, 0, []), 3), ((1, 3, 0, 0, []), 1), ((27, 0, 0, 0, []), 1)] 4 _ _ _ (by decide +kernel) ?_
    rcases px_ite h with ⟨c1, h⟩ | ⟨c1, h⟩
    · refine And.intro (fun _ => ?_) (fun hn => absurd c1 hn)
      refine H [((0, 0, 0, (-1), []), 1), ((27, 0, 0, 0, []), 1)] 64 _ _ _ (by decide +kernel) ?_
      exact Prod.mk.inj (Option.some.inj h)
    · refine And.intro (fun hp => absurd hp c1) (fun _ => ?_)
      obtain ⟨g2, h⟩ := px_gd h
      refine And.intro g2 ?_
      rcases px_ite h with ⟨c3, h⟩ | ⟨c3, h⟩
      · refine And.intro (fun hp => absurd c3 hp) (fun _ => ?_)
        obtain ⟨g4, h⟩ := px_gd h
        refine And.intro g4 ?_
        rcases px_ite h with ⟨c5, h⟩ | ⟨c5, h⟩
        · refine And.intro (fun hp => absurd c5 hp) (fun _ => ?_)
          obtain ⟨g6, h⟩ := px_gd h
          refine And.intro g6 ?_
          obtain ⟨g7, h⟩ := px_gd h
          refine And.intro g7 ?_
          obtain ⟨⟨vq8, σq8⟩, hq8, h⟩ := px_bind h
          dsimp only at h
          refine Exists.intro 0 (Exists.intro vq8 (Exists.intro σq8 (And.intro (Nat.le_of_ble_eq_true rfl) (And.intro (ok_X_covers hq8) ?_))))
          rcases px_ite h with ⟨c9, h⟩ | ⟨c9, h⟩
          · refine And.intro (fun _ => ?_) (fun hn => absurd c9 hn)
            refine H [((5, 3, 0, (-1), []), 3), ((12, 0, 4, 0, []), 3)] 58 _ _ _ (by decide +kernel) ?_
            exact ih _ _ _ h
          · refine And.intro (fun hp => absurd hp c9) (fun _ => ?_)
            exact Prod.mk.inj (Option.some.inj h)
        · refine And.intro (fun _ => ?_) (fun hn => absurd c5 hn)
          refine H [((5, 3, 0, (-1), []), 3), ((12, 0, 4, 0, []), 3)] 58 _ _ _ (by decide +kernel) ?_
          exact ih _ _ _ h
      · refine And.intro (fun _ => ?_) (fun hn => absurd c3 hn)
        refine H [((5, 3, 0, (-1), []), 3), ((12, 0, 4, 0, []), 3)] 58 _ _ _ (by decide +kernel) ?_
        exact ih _ _ _ h
theorem ok_Mach_youngestCovering_3_w {l : Launch} {rv : Int} {rσ : pS} {G : Nat → pL → List pV → pS → Prop} (H : px_R l 1 69 rv rσ G) : ∀ (a1 a2 : Int) (σ : pS), f_Mach_youngestCovering_3 a1 a2 σ = some (rv, rσ) → G 0 [some (.inr 3), some (.inl a1), some (.inl a2), none] [] σ := by
  intro a1 a2 σ h
  unfold f_Mach_youngestCovering_3 at h
  refine H [((1, 1, 0, 0, []), 1), ((0, 0, 0, 1, []), 1), ((6, 1, 0, 0, []), 1), ((3, 3, 0, 0, []), 1), ((29, 1, 0, 0, []), 0)] 0 _ _ _ (by decide +kernel) ?_
  exact ok_Mach_youngestCovering_3_p4 H _ _ _ _ h
theorem ok_Mach_youngestCovering_3 {l : Launch} {a1 a2 : Int} {σ : pS} {v : Int} {σ1 : pS} (h : f_Mach_youngestCovering_3 a1 a2 σ = some (v, σ1)) : Con l 1 69 [.inr 3, .inl a1, .inl a2] σ v σ1 := Con_mk 3 4 rfl (by decide +kernel) (fun _ H => ok_Mach_youngestCovering_3_w H _ _ _ h)
theorem ok_Mach_storedAt_3_w {l : Launch} {rv : Int} {rσ : pS} {G : Nat → pL → List pV → pS → Prop} (H : px_R l 0 71 rv rσ G) : ∀ (a1 a2 : Int) (σ : pS), f_Mach_storedAt_3 a1 a2 σ = some (rv, rσ) → G 0 [some (.inr 3), some (.inl a1), some (.inl a2), none] [] σ := by
  intro a1 a2 σ h
  unfold f_Mach_storedAt_3 at h
  refine H [((1, 2, 0, 0, []), 1), ((2, 0, 0, 0, []), 1), ((17, 3, 32, 0, []), 3), ((17, 32, 37, 0, []), 3), ((1, 1, 0, 0, []), 1), ((19, 37, 20, 0, []), 1), ((6, 1, 0, 0, []), 1), ((0, 0, 0, 63, []), 2), ((6, 3, 0, 0, []), 1), ((3, 3, 0, 0, []), 1), ((2, 0, 0, 0, []), 1), ((17, 3, 32, 0, []), 3), ((17, 32, 36, 0, []), 3), ((1, 1, 0, 0, []), 1), ((19, 36, 20, 0, []), 1), ((0, 0, 0, 8, []), 2), ((1, 3, 0, 0, []), 1), ((6, 2, 0, 0, []), 1), ((6, 8, 0, 0, []), 1), ((0, 0, 0, 255, []), 3), ((6, 3, 0, 0, []), 1), ((27, 0, 0, 0, []), 1)] 0 _ _ _ (by decide +kernel) ?_
  obtain ⟨g1, h⟩ := px_gd h
  refine And.intro g1 ?_
  obtain ⟨g2, h⟩ := px_gd h
  refine And.intro g2 ?_
  exact Prod.mk.inj (Option.some.inj h)
theorem ok_Mach_storedAt_3 {l : Launch} {a1 a2 : Int} {σ : pS} {v : Int} {σ1 : pS} (h : f_Mach_storedAt_3 a1 a2 σ = some (v, σ1)) : Con l 0 71 [.inr 3, .inl a1, .inl a2] σ v σ1 := Con_mk 3 4 rfl (by decide +kernel) (fun _ H => ok_Mach_storedAt_3_w H _ _ _ h)
theorem ok_Mach_takeBytes_3_p69 {l : Launch} {rv : Int} {rσ : pS} {G : Nat → pL → List pV → pS → Prop} (H : px_R l 2 68 rv rσ G) {k_4 : Int → Int → Int → pS → Option (Int × pS)} (hk_4 : ∀ (a1 a2 a3 : Int) (σ : pS), k_4 a1 a2 a3 σ = some (rv, rσ) → G 4 [some (.inr 3), some (.inl a1), some (.inl a2), some (.inl a3), none, none, none] [] σ) : ∀ (a1 a2 a3 a5 s0 : Int) (σ : pS), f_Mach_takeBytes_3_p69 k_4 a1 a2 a3 a5 s0 σ = some (rv, rσ) → G 69 [some (.inr 3), some (.inl a1), some (.inl a2), some (.inl a3), none, some (.inl a5), none] [.inl s0] σ := by
  intro a1 a2 a3 a5 s0 σ h
  unfold f_Mach_takeBytes_3_p69 at h
  refine H [((3, 6, 0, 0, []), 2), ((2, 0, 0, 0, []), 1), ((17, 3, 32, 0, []), 3), ((17, 32, 38, 0, []), 3), ((1, 1, 0, 0, []), 1), ((0, 0, 0, 4, []), 1), ((6, 2, 0, 0, []), 1), ((1, 3, 0, 0, []), 1), ((6, 0, 0, 0, []), 1), ((1, 5, 0, 0, []), 2), ((20, 38, 80, 0, []), 1), ((1, 2, 0, 0, []), 1), ((1, 6, 0, 0, []), 2), ((0, 0, 0, 8, []), 2), ((1, 3, 0, 0, []), 1), ((6, 2, 0, 0, []), 1), ((6, 6, 0, 0, []), 1), ((6, 4, 0, 0, []), 1), ((3, 2, 0, 0, []), 1), ((5, 3, 0, 1, []), 3), ((12, 0, 4, 0, []), 3), ((29, 5, 0, 0, []), 0), ((29, 6, 0, 0, []), 0)] 69 _ _ _ (by decide +kernel) ?_
  obtain ⟨g8, h⟩ := px_gd h
  refine And.intro g8 ?_
  exact hk_4 _ _ _ _ h
theorem ok_Mach_takeBytes_3_p4 {l : Launch} {rv : Int} {rσ : pS} {G : Nat → pL → List pV → pS → Prop} (H : px_R l 2 68 rv rσ G) : ∀ (n : Nat) (a1 a2 a3 : Int) (σ : pS), f_Mach_takeBytes_3_p4 n a1 a2 a3 σ = some (rv, rσ) → G 4 [some (.inr 3), some (.inl a1), some (.inl a2), some (.inl a3), none, none, none] [] σ := by
  intro n
  induction n with
  | zero =>
    intro a1 a2 a3 σ h
    unfold f_Mach_takeBytes_3_p4 at h
    cases h
  | succ n ih =>
    intro a1 a2 a3 σ h
    unfold f_Mach_takeBytes_3_p4 at h
    refine H [((1, 3, 0, 0, []), 1), ((2, 0, 0, 0, []), 1), ((17, 3, 4, 0, []), 3), ((17, 4, 7, 0, []), 3), ((1, 1, 0, 0, []), 1), ((19, 7, 20, 0, []), 1), ((13, 3, 102, 0, []), 3), ((2, 0, 0, 0, []), 1), ((17, 3, 32, 0, []), 3), ((17, 32, 37, 0, []), 3), ((1, 1, 0, 0, []), 1), ((19, 37, 20, 0, []), 1), ((1, 3, 0, 0, []), 1), ((6, 0, 0, 0, []), 1), ((0, 0, 0, 63, []), 2), ((6, 3, 0, 0, []), 1), ((3, 4, 0, 0, []), 2), ((2, 0, 0, 0, []), 1), ((1, 1, 0, 0, []), 1), ((1, 4, 0, 0, []), 2), ((23, 69, 2, 1, [(0, 3)]), 3), ((3, 5, 0, 0, []), 2), ((1, 5, 0, 0, []), 2), ((0, 0, 0, (-1), []), 1), ((13, 1, 61, 0, []), 3), ((2, 0, 0, 0, []), 1), ((17, 3, 24, 0, []), 3), ((17, 24, 26, 0, []), 3), ((1, 4, 0, 0, []), 2), ((19, 26, 64, 0, []), 1), ((12, 0, 69, 0, []), 3), ((29, 4, 0, 0, []), 0)] 4 _ _ _ (by decide +kernel) ?_
    obtain ⟨g1, h⟩ := px_gd h
    refine And.intro g1 ?_
    rcases px_ite h with ⟨c2, h⟩ | ⟨c2, h⟩
    · refine And.intro (fun _ => ?_) (fun hn => absurd c2 hn)
      refine H [((2, 0, 0, 0, []), 1), ((17, 3, 32, 0, []), 3), ((17, 32, 36, 0, []), 3), ((1, 1, 0, 0, []), 1), ((1, 2, 0, 0, []), 1), ((20, 36, 20, 0, []), 1), ((28, 0, 0, 0, []), 1)] 102 _ _ _ (by decide +kernel) ?_
      obtain ⟨g3, h⟩ := px_gd h
      refine And.intro g3 ?_
      exact (Prod.mk.inj (Option.some.inj h)).2
    · refine And.intro (fun hp => absurd hp c2) (fun _ => ?_)
      obtain ⟨g4, h⟩ := px_gd h
      refine And.intro g4 ?_
      obtain ⟨⟨vq5, σq5⟩, hq5, h⟩ := px_bind h
      dsimp only at h
      refine Exists.intro 1 (Exists.intro vq5 (Exists.intro σq5 (And.intro (Nat.le_of_ble_eq_true rfl) (And.intro (ok_Mach_youngestCovering_3 hq5) ?_))))
      rcases px_ite h with ⟨c6, h⟩ | ⟨c6, h⟩
      · refine And.intro (fun hp => absurd c6 hp) (fun _ => ?_)
        obtain ⟨g9, h⟩ := px_gd h
        refine And.intro g9 ?_
        exact ok_Mach_takeBytes_3_p69 H ih _ _ _ _ _ _ h
      · refine And.intro (fun _ => ?_) (fun hn => absurd c6 hn)
        refine H [((2, 0, 0, 0, []), 1), ((1, 5, 0, 0, []), 2), ((1, 4, 0, 0, []), 2), ((23, 71, 2, 1, [(0, 3)]), 3), ((29, 4, 0, 0, []), 0)] 61 _ _ _ (by decide +kernel) ?_
        obtain ⟨⟨vq7, σq7⟩, hq7, h⟩ := px_bind h
        dsimp only at h
        refine Exists.intro 0 (Exists.intro vq7 (Exists.intro σq7 (And.intro (Nat.le_of_ble_eq_true rfl) (And.intro (ok_Mach_storedAt_3 hq7) ?_))))
        exact ok_Mach_takeBytes_3_p69 H ih _ _ _ _ _ _ h
theorem ok_Mach_takeBytes_3_w {l : Launch} {rv : Int} {rσ : pS} {G : Nat → pL → List pV → pS → Prop} (H : px_R l 2 68 rv rσ G) : ∀ (a1 : Int) (σ : pS), f_Mach_takeBytes_3 a1 σ = some (rv, rσ) → G 0 [some (.inr 3), some (.inl a1), none, none, none, none, none] [] σ := by
  intro a1 σ h
  unfold f_Mach_takeBytes_3 at h
  refine H [((0, 0, 0, 0, []), 1), ((3, 2, 0, 0, []), 1), ((0, 0, 0, 0, []), 1), ((3, 3, 0, 0, []), 1)] 0 _ _ _ (by decide +kernel) ?_
  exact ok_Mach_takeBytes_3_p4 H _ _ _ _ _ h
theorem ok_Mach_takeBytes_3 {l : Launch} {a1 : Int} {σ : pS} {v : Int} {σ1 : pS} (h : f_Mach_takeBytes_3 a1 σ = some (v, σ1)) : Con l 2 68 [.inr 3, .inl a1] σ v σ1 := Con_mk 2 7 rfl (by decide +kernel) (fun _ H => ok_Mach_takeBytes_3_w H _ _ h)
theorem ok_Mach_finishOps_3_p2 {l : Launch} {rv : Int} {rσ : pS} {G : Nat → pL → List pV → pS → Prop} (H : px_R l 4 65 rv rσ G) : ∀ (n : Nat) (a1 : Int) (σ : pS), f_Mach_finishOps_3_p2 n a1 σ = some (rv, rσ) → G 2 [some (.inr 3), some (.inl a1), none, none] [] σ := by
  intro n
  induction n with
  | zero =>
    intro a1 σ h
    unfold f_Mach_finishOps_3_p2 at h
    cases h
  | succ n ih =>
    intro a1 σ h
    unfold f_Mach_finishOps_3_p2 at h
    refine H [((1, 1, 0, 0, []), 1), ((2, 0, 0, 0, []), 1), ((17, 3, 4, 0, []), 3), ((16, 4, 11, 0, []), 3), ((13, 3, 226, 0, []), 3), ((2, 0, 0, 0, []), 1), ((17, 3, 39, 0, []), 3), ((1, 1, 0, 0, []), 1), ((19, 39, 20, 0, []), 1), ((0, 0, 0, 1, []), 1), ((13, 1, 220, 0, []), 3), ((2, 0, 0, 0, []), 1), ((17, 3, 40, 0, []), 3), ((1, 1, 0, 0, []), 1), ((19, 40, 20, 0, []), 1), ((2, 0, 0, 0, []), 1), ((16, 3, 11, 0, []), 3), ((13, 0, 39, 0, []), 3), ((12, 0, 220, 0, []), 3), ((5, 1, 0, 1, []), 3), ((12, 0, 2, 0, []), 3)] 2 _ _ _ (by decide +kernel) ?_
    rcases px_ite h with ⟨c1, h⟩ | ⟨c1, h⟩
    · refine And.intro (fun _ => ?_) (fun hn => absurd c1 hn)
      refine H [((28, 0, 0, 0, []), 1)] 226 _ _ _ (by decide +kernel) ?_
      exact (Prod.mk.inj (Option.some.inj h)).2
    · refine And.intro (fun hp => absurd hp c1) (fun _ => ?_)
      obtain ⟨g2, h⟩ := px_gd h
      refine And.intro g2 ?_
      rcases px_ite h with ⟨c3, h⟩ | ⟨c3, h⟩
      · refine And.intro (fun hp => absurd c3 hp) (fun _ => ?_)
        obtain ⟨g4, h⟩ := px_gd h
        refine And.intro g4 ?_
        rcases px_ite h with ⟨c5, h⟩ | ⟨c5, h⟩
        · refine And.intro (fun _ => ?_) (fun hn => absurd c5 hn)
          refine H [((2, 0, 0, 0, []), 1), ((17, 3, 39, 0, []), 3), ((1, 1, 0, 0, []), 1), ((0, 0, 0, 2, []), 1), ((20, 39, 20, 0, []), 1), ((2, 0, 0, 0, []), 1), ((17, 3, 32, 0, []), 3), ((17, 32, 34, 0, []), 3), ((1, 1, 0, 0, []), 1), ((2, 0, 0, 0, []), 1), ((16, 3, 11, 0, []), 3), ((20, 34, 20, 0, []), 1), ((2, 0, 0, 0, []), 1), ((2, 0, 0, 0, []), 1), ((17, 3, 4, 0, []), 3), ((17, 4, 12, 0, []), 3), ((1, 1, 0, 0, []), 1), ((19, 12, 20, 0, []), 1), ((2, 0, 0, 0, []), 1), ((17, 3, 4, 0, []), 3), ((17, 4, 9, 0, []), 3), ((1, 1, 0, 0, []), 1), ((19, 9, 20, 0, []), 1), ((23, 66, 2, 1, [(0, 3)]), 3), ((3, 2, 0, 0, []), 1), ((2, 0, 0, 0, []), 1), ((2, 0, 0, 0, []), 1), ((17, 3, 4, 0, []), 3), ((17, 4, 13, 0, []), 3), ((1, 1, 0, 0, []), 1), ((19, 13, 20, 0, []), 1), ((2, 0, 0, 0, []), 1), ((17, 3, 4, 0, []), 3), ((17, 4, 10, 0, []), 3), ((1, 1, 0, 0, []), 1), ((19, 10, 20, 0, []), 1), ((23, 66, 2, 1, [(0, 3)]), 3), ((3, 3, 0, 0, []), 1), ((2, 0, 0, 0, []), 1), ((17, 3, 4, 0, []), 3), ((17, 4, 5, 0, []), 3), ((1, 1, 0, 0, []), 1), ((19, 5, 20, 0, []), 1), ((0, 0, 0, 2, []), 1), ((13, 1, 144, 0, []), 3), ((2, 0, 0, 0, []), 1), ((17, 3, 32, 0, []), 3), ((17, 32, 37, 0, []), 3), ((1, 1, 0, 0, []), 1), ((2, 0, 0, 0, []), 1), ((17, 3, 4, 0, []), 3), ((1, 1, 0, 0, []), 1), ((1, 3, 0, 0, []), 1), ((23, 67, 2, 1, [(0, 4)]), 3), ((20, 37, 20, 0, []), 1), ((2, 0, 0, 0, []), 1), ((1, 1, 0, 0, []), 1), ((23, 68, 1, 0, [(0, 3)]), 3), ((12, 0, 220, 0, []), 3), ((5, 1, 0, 1, []), 3), ((12, 0, 2, 0, []), 3), ((29, 2, 0, 0, []), 0), ((29, 3, 0, 0, []), 0)] 39 _ _ _ (by decide +kernel) ?_
          obtain ⟨g6, h⟩ := px_gd h
          refine And.intro g6 ?_
          obtain ⟨g7, h⟩ := px_gd h
          refine And.intro g7 ?_
          obtain ⟨g8, h⟩ := px_gd h
          refine And.intro g8 ?_
          obtain ⟨g9, h⟩ := px_gd h
          refine And.intro g9 ?_
          obtain ⟨⟨vq10, σq10⟩, hq10, h⟩ := px_bind h
          dsimp only at h
          refine Exists.intro 1 (Exists.intro vq10 (Exists.intro σq10 (And.intro (Nat.le_of_ble_eq_true rfl) (And.intro (ok_Mach_valueRead_3 hq10) ?_))))
          obtain ⟨g11, h⟩ := px_gd h
          refine And.intro g11 ?_
          obtain ⟨g12, h⟩ := px_gd h
          refine And.intro g12 ?_
          obtain ⟨⟨vq13, σq13⟩, hq13, h⟩ := px_bind h
          dsimp only at h
          refine Exists.intro 1 (Exists.intro vq13 (Exists.intro σq13 (And.intro (Nat.le_of_ble_eq_true rfl) (And.intro (ok_Mach_valueRead_3 hq13) ?_))))
          obtain ⟨g14, h⟩ := px_gd h
          refine And.intro g14 ?_
          rcases px_ite h with ⟨c15, h⟩ | ⟨c15, h⟩
          · refine And.intro (fun hp => absurd c15 hp) (fun _ => ?_)
            obtain ⟨⟨vq25, σq25⟩, hq25, h⟩ := px_bind h
            dsimp only at h
            refine Exists.intro 0 (Exists.intro vq25 (Exists.intro σq25 (And.intro (Nat.le_of_ble_eq_true rfl) (And.intro (ok_Prog_placeBy_4 hq25) ?_))))
            obtain ⟨g26, h⟩ := px_gd h
            refine And.intro g26 ?_
            obtain ⟨⟨vq27, σq27⟩, hq27, h⟩ := px_bind h
            dsimp only at h
            refine Exists.intro 2 (Exists.intro vq27 (Exists.intro σq27 (And.intro (Nat.le_of_ble_eq_true rfl) (And.intro (ok_Mach_takeBytes_3 hq27) ?_))))
            exact ih _ _ h
          · refine And.intro (fun _ => ?_) (fun hn => absurd c15 hn)
            refine H [((2, 0, 0, 0, []), 1), ((17, 3, 4, 0, []), 3), ((17, 4, 5, 0, []), 3), ((1, 1, 0, 0, []), 1), ((19, 5, 20, 0, []), 1), ((0, 0, 0, 3, []), 1), ((13, 1, 201, 0, []), 3), ((2, 0, 0, 0, []), 1), ((17, 3, 32, 0, []), 3), ((17, 32, 37, 0, []), 3), ((1, 1, 0, 0, []), 1), ((2, 0, 0, 0, []), 1), ((17, 3, 4, 0, []), 3), ((1, 1, 0, 0, []), 1), ((1, 3, 0, 0, []), 1), ((23, 67, 2, 1, [(0, 4)]), 3), ((20, 37, 20, 0, []), 1), ((2, 0, 0, 0, []), 1), ((17, 3, 32, 0, []), 3), ((17, 32, 36, 0, []), 3), ((1, 1, 0, 0, []), 1), ((2, 0, 0, 0, []), 1), ((17, 3, 4, 0, []), 3), ((1, 1, 0, 0, []), 1), ((1, 2, 0, 0, []), 1), ((23, 72, 2, 1, [(0, 4)]), 3), ((20, 36, 20, 0, []), 1), ((2, 0, 0, 0, []), 1), ((1, 1, 0, 0, []), 1), ((23, 73, 1, 0, [(0, 3)]), 3), ((12, 0, 220, 0, []), 3), ((5, 1, 0, 1, []), 3), ((12, 0, 2, 0, []), 3), ((29, 2, 0, 0, []), 0), ((29, 3, 0, 0, []), 0)] 144 _ _ _ (by decide +kernel) ?_
            obtain ⟨g16, h⟩ := px_gd h
            refine And.intro g16 ?_
            rcases px_ite h with ⟨c17, h⟩ | ⟨c17, h⟩
            · refine And.intro (fun hp => absurd c17 hp) (fun _ => ?_)
              obtain ⟨⟨vq20, σq20⟩, hq20, h⟩ := px_bind h
              dsimp only at h
              refine Exists.intro 0 (Exists.intro vq20 (Exists.intro σq20 (And.intro (Nat.le_of_ble_eq_true rfl) (And.intro (ok_Prog_placeBy_4 hq20) ?_))))
              obtain ⟨g21, h⟩ := px_gd h
              refine And.intro g21 ?_
              obtain ⟨⟨vq22, σq22⟩, hq22, h⟩ := px_bind h
              dsimp only at h
              refine Exists.intro 0 (Exists.intro vq22 (Exists.intro σq22 (And.intro (Nat.le_of_ble_eq_true rfl) (And.intro (ok_Prog_storedOf_4 hq22) ?_))))
              obtain ⟨g23, h⟩ := px_gd h
              refine And.intro g23 ?_
              obtain ⟨⟨vq24, σq24⟩, hq24, h⟩ := px_bind h
              dsimp only at h
              refine Exists.intro 3 (Exists.intro vq24 (Exists.intro σq24 (And.intro (Nat.le_of_ble_eq_true rfl) (And.intro (ok_Mach_lookBack_3 hq24) ?_))))
              exact ih _ _ h
            · refine And.intro (fun _ => ?_) (fun hn => absurd c17 hn)
              refine H [((2, 0, 0, 0, []), 1), ((17, 3, 32, 0, []), 3), ((17, 32, 36, 0, []), 3), ((1, 1, 0, 0, []), 1), ((2, 0, 0, 0, []), 1), ((17, 3, 4, 0, []), 3), ((1, 1, 0, 0, []), 1), ((1, 2, 0, 0, []), 1), ((1, 3, 0, 0, []), 1), ((23, 80, 3, 1, [(0, 4)]), 3), ((20, 36, 20, 0, []), 1), ((5, 1, 0, 1, []), 3), ((12, 0, 2, 0, []), 3), ((29, 2, 0, 0, []), 0), ((29, 3, 0, 0, []), 0)] 201 _ _ _ (by decide +kernel) ?_
              obtain ⟨⟨vq18, σq18⟩, hq18, h⟩ := px_bind h
              dsimp only at h
              refine Exists.intro 0 (Exists.intro vq18 (Exists.intro σq18 (And.intro (Nat.le_of_ble_eq_true rfl) (And.intro (ok_Prog_reckoned_4 hq18) ?_))))
              obtain ⟨g19, h⟩ := px_gd h
              refine And.intro g19 ?_
              exact ih _ _ h
        · refine And.intro (fun hp => absurd hp c5) (fun _ => ?_)
          exact ih _ _ h
      · refine And.intro (fun _ => ?_) (fun hn => absurd c3 hn)
        refine H [((5, 1, 0, 1, []), 3), ((12, 0, 2, 0, []), 3)] 220 _ _ _ (by decide +kernel) ?_
        exact ih _ _ h
theorem ok_Mach_finishOps_3_w {l : Launch} {rv : Int} {rσ : pS} {G : Nat → pL → List pV → pS → Prop} (H : px_R l 4 65 rv rσ G) : ∀ (σ : pS), f_Mach_finishOps_3  σ = some (rv, rσ) → G 0 [some (.inr 3), none, none, none] [] σ := by
  intro  σ h
  unfold f_Mach_finishOps_3 at h
  refine H [((0, 0, 0, 0, []), 1), ((3, 1, 0, 0, []), 1)] 0 _ _ _ (by decide +kernel) ?_
  exact ok_Mach_finishOps_3_p2 H _ _ _ h
theorem ok_Mach_finishOps_3 {l : Launch} {σ : pS} {v : Int} {σ1 : pS} (h : f_Mach_finishOps_3  σ = some (v, σ1)) : Con l 4 65 [.inr 3] σ v σ1 := Con_mk 1 4 rfl (by decide +kernel) (fun _ H => ok_Mach_finishOps_3_w H  _ h)
theorem ok_Mach_isDone_3_w {l : Launch} {rv : Int} {rσ : pS} {G : Nat → pL → List pV → pS → Prop} (H : px_R l 0 82 rv rσ G) : ∀ (a1 : Int) (σ : pS), f_Mach_isDone_3 a1 σ = some (rv, rσ) → G 0 [some (.inr 3), some (.inl a1)] [] σ := by
  intro a1 σ h
  unfold f_Mach_isDone_3 at h
  refine H [((1, 1, 0, 0, []), 1), ((14, 2, 20, 0, []), 3), ((1, 1, 0, 0, []), 1), ((0, 0, 0, 20, []), 2), ((13, 3, 20, 0, []), 3), ((2, 0, 0, 0, []), 1), ((17, 3, 39, 0, []), 3), ((1, 1, 0, 0, []), 1), ((19, 39, 20, 0, []), 1), ((0, 0, 0, 2, []), 1), ((13, 1, 24, 0, []), 3), ((0, 0, 0, 1, []), 1), ((12, 0, 25, 0, []), 3), ((27, 1, 0, 0, []), 1)] 0 _ _ _ (by decide +kernel) ?_
  rcases px_ite h with ⟨c1, h⟩ | ⟨c1, h⟩
  · refine And.intro (fun _ => ?_) (fun hn => absurd c1 hn)
    refine H [((0, 0, 0, 1, []), 1), ((12, 0, 25, 0, []), 3), ((27, 1, 0, 0, []), 1)] 20 _ _ _ (by decide +kernel) ?_
    refine And.intro (show (0 : Int) ≤ 1 ∧ (1 : Int) ≤ 1 from by decide) ?_
    exact Prod.mk.inj (Option.some.inj h)
  · refine And.intro (fun hp => absurd hp c1) (fun _ => ?_)
    rcases px_ite h with ⟨c2, h⟩ | ⟨c2, h⟩
    · refine And.intro (fun _ => ?_) (fun hn => absurd c2 hn)
      refine H [((0, 0, 0, 1, []), 1), ((12, 0, 25, 0, []), 3), ((27, 1, 0, 0, []), 1)] 20 _ _ _ (by decide +kernel) ?_
      refine And.intro (show (0 : Int) ≤ 1 ∧ (1 : Int) ≤ 1 from by decide) ?_
      exact Prod.mk.inj (Option.some.inj h)
    · refine And.intro (fun hp => absurd hp c2) (fun _ => ?_)
      obtain ⟨g3, h⟩ := px_gd h
      refine And.intro g3 ?_
      rcases px_ite h with ⟨c4, h⟩ | ⟨c4, h⟩
      · refine And.intro (fun hp => absurd c4 hp) (fun _ => ?_)
        refine And.intro (show (0 : Int) ≤ 1 ∧ (1 : Int) ≤ 1 from by decide) ?_
        exact Prod.mk.inj (Option.some.inj h)
      · refine And.intro (fun _ => ?_) (fun hn => absurd c4 hn)
        refine H [((0, 0, 0, 0, []), 1), ((27, 1, 0, 0, []), 1)] 24 _ _ _ (by decide +kernel) ?_
        refine And.intro (show (0 : Int) ≤ 0 ∧ (0 : Int) ≤ 1 from by decide) ?_
        exact Prod.mk.inj (Option.some.inj h)
theorem ok_Mach_isDone_3 {l : Launch} {a1 : Int} {σ : pS} {v : Int} {σ1 : pS} (h : f_Mach_isDone_3 a1 σ = some (v, σ1)) : Con l 0 82 [.inr 3, .inl a1] σ v σ1 := Con_mk 2 2 rfl (by decide +kernel) (fun _ H => ok_Mach_isDone_3_w H _ _ h)
theorem ok_Mach_mustWait_3_p90 {l : Launch} {rv : Int} {rσ : pS} {G : Nat → pL → List pV → pS → Prop} (H : px_R l 0 83 rv rσ G) {k_51 : Int → Int → Int → pS → Option (Int × pS)} (hk_51 : ∀ (a3 a4 a5 : Int) (σ : pS), k_51 a3 a4 a5 σ = some (rv, rσ) → G 51 [some (.inr 3), none, none, some (.inl a3), some (.inl a4), some (.inl a5)] [] σ) : ∀ (a3 a4 a5 : Int) (σ : pS), f_Mach_mustWait_3_p90 k_51 a3 a4 a5 σ = some (rv, rσ) → G 90 [some (.inr 3), none, none, some (.inl a3), some (.inl a4), some (.inl a5)] [] σ := by
  intro a3 a4 a5 σ h
  unfold f_Mach_mustWait_3_p90 at h
  refine H [((1, 3, 0, 0, []), 1), ((14, 1, 126, 0, []), 3), ((2, 0, 0, 0, []), 1), ((17, 3, 28, 0, []), 3), ((17, 28, 31, 0, []), 3), ((1, 5, 0, 0, []), 2), ((19, 31, 20, 0, []), 1), ((1, 4, 0, 0, []), 2), ((13, 1, 126, 0, []), 3), ((2, 0, 0, 0, []), 1), ((17, 3, 39, 0, []), 3), ((1, 5, 0, 0, []), 2), ((19, 39, 20, 0, []), 1), ((0, 0, 0, 2, []), 1), ((13, 0, 124, 0, []), 3), ((0, 0, 0, 1, []), 1), ((12, 0, 125, 0, []), 3), ((27, 1, 0, 0, []), 1)] 90 _ _ _ (by decide +kernel) ?_
  rcases px_ite h with ⟨c8, h⟩ | ⟨c8, h⟩
  · refine And.intro (fun hp => absurd c8 hp) (fun _ => ?_)
    obtain ⟨g9, h⟩ := px_gd h
    refine And.intro g9 ?_
    rcases px_ite h with ⟨c10, h⟩ | ⟨c10, h⟩
    · refine And.intro (fun hp => absurd c10 hp) (fun _ => ?_)
      obtain ⟨g11, h⟩ := px_gd h
      refine And.intro g11 ?_
      rcases px_ite h with ⟨c12, h⟩ | ⟨c12, h⟩
      · refine And.intro (fun _ => ?_) (fun hn => absurd c12 hn)
        refine H [((0, 0, 0, 0, []), 1), ((27, 1, 0, 0, []), 1)] 124 _ _ _ (by decide +kernel) ?_
        refine And.intro (show (0 : Int) ≤ 0 ∧ (0 : Int) ≤ 1 from by decide) ?_
        exact Prod.mk.inj (Option.some.inj h)
      · refine And.intro (fun hp => absurd hp c12) (fun _ => ?_)
        refine And.intro (show (0 : Int) ≤ 1 ∧ (1 : Int) ≤ 1 from by decide) ?_
        exact Prod.mk.inj (Option.some.inj h)
    · refine And.intro (fun _ => ?_) (fun hn => absurd c10 hn)
      refine H [((5, 5, 0, (-1), []), 3), ((12, 0, 51, 0, []), 3)] 126 _ _ _ (by decide +kernel) ?_
      exact hk_51 _ _ _ _ h
  · refine And.intro (fun _ => ?_) (fun hn => absurd c8 hn)
    refine H [((5, 5, 0, (-1), []), 3), ((12, 0, 51, 0, []), 3)] 126 _ _ _ (by decide +kernel) ?_
    exact hk_51 _ _ _ _ h
theorem ok_Mach_mustWait_3_p51 {l : Launch} {rv : Int} {rσ : pS} {G : Nat → pL → List pV → pS → Prop} (H : px_R l 0 83 rv rσ G) : ∀ (n : Nat) (a3 a4 a5 : Int) (σ : pS), f_Mach_mustWait_3_p51 n a3 a4 a5 σ = some (rv, rσ) → G 51 [some (.inr 3), none, none, some (.inl a3), some (.inl a4), some (.inl a5)] [] σ := by
  intro n
  induction n with
  | zero =>
    intro a3 a4 a5 σ h
    unfold f_Mach_mustWait_3_p51 at h
    cases h
  | succ n ih =>
    intro a3 a4 a5 σ h
    unfold f_Mach_mustWait_3_p51 at h
    refine H [((1, 5, 0, 0, []), 2), ((14, 2, 132, 0, []), 3), ((2, 0, 0, 0, []), 1), ((17, 3, 4, 0, []), 3), ((17, 4, 5, 0, []), 3), ((1, 5, 0, 0, []), 2), ((19, 5, 20, 0, []), 1), ((0, 0, 0, 3, []), 1), ((13, 0, 73, 0, []), 3), ((12, 0, 126, 0, []), 3), ((5, 5, 0, (-1), []), 3), ((12, 0, 51, 0, []), 3)] 51 _ _ _ (by decide +kernel) ?_
    rcases px_ite h with ⟨c4, h⟩ | ⟨c4, h⟩
    · refine And.intro (fun _ => ?_) (fun hn => absurd c4 hn)
      refine H [((0, 0, 0, 0, []), 1), ((27, 1, 0, 0, []), 1)] 132 _ _ _ (by decide +kernel) ?_
      refine And.intro (show (0 : Int) ≤ 0 ∧ (0 : Int) ≤ 1 from by decide) ?_
      exact Prod.mk.inj (Option.some.inj h)
    · refine And.intro (fun hp => absurd hp c4) (fun _ => ?_)
      obtain ⟨g5, h⟩ := px_gd h
      refine And.intro g5 ?_
      rcases px_ite h with ⟨c6, h⟩ | ⟨c6, h⟩
      · refine And.intro (fun _ => ?_) (fun hn => absurd c6 hn)
        refine H [((1, 3, 0, 0, []), 1), ((14, 0, 90, 0, []), 3), ((2, 0, 0, 0, []), 1), ((17, 3, 39, 0, []), 3), ((1, 5, 0, 0, []), 2), ((19, 39, 20, 0, []), 1), ((0, 0, 0, 2, []), 1), ((13, 0, 90, 0, []), 3), ((0, 0, 0, 1, []), 1), ((27, 1, 0, 0, []), 1)] 73 _ _ _ (by decide +kernel) ?_
        rcases px_ite h with ⟨c7, h⟩ | ⟨c7, h⟩
        · refine And.intro (fun _ => ?_) (fun hn => absurd c7 hn)
          exact ok_Mach_mustWait_3_p90 H ih _ _ _ _ h
        · refine And.intro (fun hp => absurd hp c7) (fun _ => ?_)
          obtain ⟨g13, h⟩ := px_gd h
          refine And.intro g13 ?_
          rcases px_ite h with ⟨c14, h⟩ | ⟨c14, h⟩
          · refine And.intro (fun _ => ?_) (fun hn => absurd c14 hn)
            exact ok_Mach_mustWait_3_p90 H ih _ _ _ _ h
          · refine And.intro (fun hp => absurd hp c14) (fun _ => ?_)
            refine And.intro (show (0 : Int) ≤ 1 ∧ (1 : Int) ≤ 1 from by decide) ?_
            exact Prod.mk.inj (Option.some.inj h)
      · refine And.intro (fun hp => absurd hp c6) (fun _ => ?_)
        exact ih _ _ _ _ h
theorem ok_Mach_mustWait_3_p22 {l : Launch} {rv : Int} {rσ : pS} {G : Nat → pL → List pV → pS → Prop} (H : px_R l 0 83 rv rσ G) : ∀ (a1 s0 : Int) (σ : pS), f_Mach_mustWait_3_p22 a1 s0 σ = some (rv, rσ) → G 22 [some (.inr 3), some (.inl a1), none, none, none, none] [.inl s0] σ := by
  intro a1 s0 σ h
  unfold f_Mach_mustWait_3_p22 at h
  refine H [((3, 3, 0, 0, []), 1), ((2, 0, 0, 0, []), 1), ((17, 3, 28, 0, []), 3), ((17, 28, 31, 0, []), 3), ((1, 1, 0, 0, []), 1), ((19, 31, 20, 0, []), 1), ((3, 4, 0, 0, []), 2), ((1, 3, 0, 0, []), 1), ((14, 1, 46, 0, []), 3), ((1, 4, 0, 0, []), 2), ((0, 0, 0, (-1), []), 1), ((13, 1, 46, 0, []), 3), ((0, 0, 0, 0, []), 1), ((27, 1, 0, 0, []), 1)] 22 _ _ _ (by decide +kernel) ?_
  obtain ⟨g2, h⟩ := px_gd h
  refine And.intro g2 ?_
  rcases px_ite h with ⟨c3, h⟩ | ⟨c3, h⟩
  · refine And.intro (fun hp => absurd c3 hp) (fun _ => ?_)
    rcases px_ite h with ⟨c15, h⟩ | ⟨c15, h⟩
    · refine And.intro (fun hp => absurd c15 hp) (fun _ => ?_)
      refine And.intro (show (0 : Int) ≤ 0 ∧ (0 : Int) ≤ 1 from by decide) ?_
      exact Prod.mk.inj (Option.some.inj h)
    · refine And.intro (fun _ => ?_) (fun hn => absurd c15 hn)
      refine H [((1, 1, 0, 0, []), 1), ((0, 0, 0, 1, []), 1), ((6, 1, 0, 0, []), 1), ((3, 5, 0, 0, []), 2), ((29, 1, 0, 0, []), 0)] 46 _ _ _ (by decide +kernel) ?_
      exact ok_Mach_mustWait_3_p51 H _ _ _ _ _ h
  · refine And.intro (fun _ => ?_) (fun hn => absurd c3 hn)
    refine H [((1, 1, 0, 0, []), 1), ((0, 0, 0, 1, []), 1), ((6, 1, 0, 0, []), 1), ((3, 5, 0, 0, []), 2), ((29, 1, 0, 0, []), 0)] 46 _ _ _ (by decide +kernel) ?_
    exact ok_Mach_mustWait_3_p51 H _ _ _ _ _ h
theorem ok_Mach_mustWait_3_p21 {l : Launch} {rv : Int} {rσ : pS} {G : Nat → pL → List pV → pS → Prop} (H : px_R l 0 83 rv rσ G) : ∀ (a1 : Int) (σ : pS), f_Mach_mustWait_3_p21 a1 σ = some (rv, rσ) → G 21 [some (.inr 3), some (.inl a1), none, none, none, none] [] σ := by
  intro a1 σ h
  unfold f_Mach_mustWait_3_p21 at h
  refine H [((0, 0, 0, 0, []), 1)] 21 _ _ _ (by decide +kernel) ?_
  exact ok_Mach_mustWait_3_p22 H _ _ _ h
theorem ok_Mach_mustWait_3_w {l : Launch} {rv : Int} {rσ : pS} {G : Nat → pL → List pV → pS → Prop} (H : px_R l 0 83 rv rσ G) : ∀ (a1 a2 : Int) (σ : pS), f_Mach_mustWait_3 a1 a2 σ = some (rv, rσ) → G 0 [some (.inr 3), some (.inl a1), some (.inl a2), none, none, none] [] σ := by
  intro a1 a2 σ h
  unfold f_Mach_mustWait_3 at h
  refine H [((1, 2, 0, 0, []), 1), ((14, 0, 21, 0, []), 3), ((2, 0, 0, 0, []), 1), ((17, 3, 4, 0, []), 3), ((17, 4, 5, 0, []), 3), ((1, 1, 0, 0, []), 1), ((19, 5, 20, 0, []), 1), ((0, 0, 0, 2, []), 1), ((13, 1, 21, 0, []), 3), ((0, 0, 0, 1, []), 1), ((12, 0, 22, 0, []), 3), ((29, 2, 0, 0, []), 0)] 0 _ _ _ (by decide +kernel) ?_
  rcases px_ite h with ⟨c1, h⟩ | ⟨c1, h⟩
  · refine And.intro (fun _ => ?_) (fun hn => absurd c1 hn)
    refine H [((29, 2, 0, 0, []), 0)] 21 _ _ _ (by decide +kernel) ?_
    exact ok_Mach_mustWait_3_p21 H _ _ h
  · refine And.intro (fun hp => absurd hp c1) (fun _ => ?_)
    obtain ⟨g16, h⟩ := px_gd h
    refine And.intro g16 ?_
    rcases px_ite h with ⟨c17, h⟩ | ⟨c17, h⟩
    · refine And.intro (fun hp => absurd c17 hp) (fun _ => ?_)
      exact ok_Mach_mustWait_3_p22 H _ _ _ h
    · refine And.intro (fun _ => ?_) (fun hn => absurd c17 hn)
      refine H [((29, 2, 0, 0, []), 0)] 21 _ _ _ (by decide +kernel) ?_
      exact ok_Mach_mustWait_3_p21 H _ _ h
theorem ok_Mach_mustWait_3 {l : Launch} {a1 a2 : Int} {σ : pS} {v : Int} {σ1 : pS} (h : f_Mach_mustWait_3 a1 a2 σ = some (v, σ1)) : Con l 0 83 [.inr 3, .inl a1, .inl a2] σ v σ1 := Con_mk 3 6 rfl (by decide +kernel) (fun _ H => ok_Mach_mustWait_3_w H _ _ _ h)
theorem ok_State_draw_28_w {l : Launch} {rv : Int} {rσ : pS} {G : Nat → pL → List pV → pS → Prop} (H : px_R l 0 84 rv rσ G) : ∀ (σ : pS), f_State_draw_28  σ = some (rv, rσ) → G 0 [some (.inr 28)] [] σ := by
  intro  σ h
  unfold f_State_draw_28 at h
  refine H [((2, 0, 0, 0, []), 1), ((0, 0, 0, 25173, []), 3), ((2, 0, 0, 0, []), 1), ((16, 28, 5, 0, []), 3), ((6, 2, 0, 0, []), 1), ((0, 0, 0, 13849, []), 3), ((6, 0, 0, 0, []), 1), ((0, 0, 0, 65535, []), 2), ((6, 3, 0, 0, []), 1), ((18, 28, 5, 0, []), 3), ((2, 0, 0, 0, []), 1), ((16, 28, 5, 0, []), 3), ((0, 0, 0, 10, []), 2), ((7, 1, 0, 0, []), 1), ((27, 0, 0, 0, []), 1)] 0 _ _ _ (by decide +kernel) ?_
  refine And.intro (show (10 : Int) ≠ 0 from by decide) (fun r1 hr1 => ?_)
  replace hr1 : r1 = pRem (pAnd (pw ((pw (25173 * (σ 28 5))) + 13849)) 65535) 10 := hr1.trans (px_dr_1 _ _)
  try rw [← hr1] at h
  exact Prod.mk.inj (Option.some.inj h)
theorem ok_State_draw_28 {l : Launch} {σ : pS} {v : Int} {σ1 : pS} (h : f_State_draw_28  σ = some (v, σ1)) : Con l 0 84 [.inr 28] σ v σ1 := Con_mk 1 1 rfl (by decide +kernel) (fun _ H => ok_State_draw_28_w H  _ h)
theorem ok_Law_tell_16_w {l : Launch} {rv : Int} {rσ : pS} {G : Nat → pL → List pV → pS → Prop} (H : px_R l 0 86 rv rσ G) : ∀ (a1 a2 a3 a4 a5 a6 a7 : Int) (σ : pS), f_Law_tell_16 a1 a2 a3 a4 a5 a6 a7 σ = some (rv, rσ) → G 0 [some (.inr 16), some (.inl a1), some (.inl a2), some (.inl a3), some (.inl a4), some (.inl a5), some (.inl a6), some (.inl a7)] [] σ := by
  intro a1 a2 a3 a4 a5 a6 a7 σ h
  unfold f_Law_tell_16 at h
  refine H [((2, 0, 0, 0, []), 1), ((17, 16, 22, 0, []), 3), ((0, 0, 0, 0, []), 1), ((1, 1, 0, 0, []), 1), ((20, 22, 7, 0, []), 1), ((2, 0, 0, 0, []), 1), ((17, 16, 22, 0, []), 3), ((0, 0, 0, 1, []), 1), ((1, 2, 0, 0, []), 1), ((20, 22, 7, 0, []), 1), ((2, 0, 0, 0, []), 1), ((17, 16, 22, 0, []), 3), ((0, 0, 0, 2, []), 1), ((1, 3, 0, 0, []), 1), ((20, 22, 7, 0, []), 1), ((2, 0, 0, 0, []), 1), ((17, 16, 22, 0, []), 3), ((0, 0, 0, 3, []), 1), ((1, 4, 0, 0, []), 2), ((20, 22, 7, 0, []), 1), ((2, 0, 0, 0, []), 1), ((17, 16, 22, 0, []), 3), ((0, 0, 0, 4, []), 1), ((1, 5, 0, 0, []), 2), ((20, 22, 7, 0, []), 1), ((2, 0, 0, 0, []), 1), ((17, 16, 22, 0, []), 3), ((0, 0, 0, 5, []), 1), ((1, 6, 0, 0, []), 2), ((20, 22, 7, 0, []), 1), ((2, 0, 0, 0, []), 1), ((17, 16, 22, 0, []), 3), ((0, 0, 0, 6, []), 2), ((1, 7, 0, 0, []), 2), ((20, 22, 7, 0, []), 1), ((28, 0, 0, 0, []), 1)] 0 _ _ _ (by decide +kernel) ?_
  refine And.intro (show (0 : Int) ≤ 0 ∧ (0 : Int) < 7 from by decide) ?_
  refine And.intro (show (0 : Int) ≤ 1 ∧ (1 : Int) < 7 from by decide) ?_
  refine And.intro (show (0 : Int) ≤ 2 ∧ (2 : Int) < 7 from by decide) ?_
  refine And.intro (show (0 : Int) ≤ 3 ∧ (3 : Int) < 7 from by decide) ?_
  refine And.intro (show (0 : Int) ≤ 4 ∧ (4 : Int) < 7 from by decide) ?_
  refine And.intro (show (0 : Int) ≤ 5 ∧ (5 : Int) < 7 from by decide) ?_
  refine And.intro (show (0 : Int) ≤ 6 ∧ (6 : Int) < 7 from by decide) ?_
  exact (Prod.mk.inj (Option.some.inj h)).2
theorem ok_Law_tell_16 {l : Launch} {a1 a2 a3 a4 a5 a6 a7 : Int} {σ : pS} {v : Int} {σ1 : pS} (h : f_Law_tell_16 a1 a2 a3 a4 a5 a6 a7 σ = some (v, σ1)) : Con l 0 86 [.inr 16, .inl a1, .inl a2, .inl a3, .inl a4, .inl a5, .inl a6, .inl a7] σ v σ1 := Con_mk 8 8 rfl (by decide +kernel) (fun _ H => ok_Law_tell_16_w H _ _ _ _ _ _ _ _ h)
theorem ok_Mach_tellLaw_3_p27 {l : Launch} {rv : Int} {rσ : pS} {G : Nat → pL → List pV → pS → Prop} (H : px_R l 1 85 rv rσ G) : ∀ (a1 a2 s0 : Int) (σ : pS), f_Mach_tellLaw_3_p27 a1 a2 s0 σ = some (rv, rσ) → G 27 [some (.inr 3), some (.inl a1), some (.inl a2), none] [.inl s0] σ := by
  intro a1 a2 s0 σ h
  unfold f_Mach_tellLaw_3_p27 at h
  refine H [((3, 3, 0, 0, []), 1), ((2, 0, 0, 0, []), 1), ((17, 3, 16, 0, []), 3), ((1, 1, 0, 0, []), 1), ((2, 0, 0, 0, []), 1), ((17, 3, 4, 0, []), 3), ((17, 4, 5, 0, []), 3), ((1, 1, 0, 0, []), 1), ((19, 5, 20, 0, []), 1), ((2, 0, 0, 0, []), 1), ((16, 3, 11, 0, []), 3), ((0, 0, 0, 100, []), 2), ((7, 1, 0, 0, []), 1), ((1, 3, 0, 0, []), 1), ((2, 0, 0, 0, []), 1), ((17, 3, 32, 0, []), 3), ((17, 32, 35, 0, []), 3), ((1, 1, 0, 0, []), 1), ((19, 35, 20, 0, []), 1), ((2, 0, 0, 0, []), 1), ((17, 3, 24, 0, []), 3), ((16, 24, 4, 0, []), 3), ((0, 0, 0, 100, []), 2), ((7, 1, 0, 0, []), 1), ((1, 2, 0, 0, []), 1), ((23, 86, 7, 0, [(0, 16)]), 3), ((28, 0, 0, 0, []), 1)] 27 _ _ _ (by decide +kernel) ?_
  obtain ⟨g4, h⟩ := px_gd h
  refine And.intro g4 ?_
  refine And.intro (show (100 : Int) ≠ 0 from by decide) (fun r5 hr5 => ?_)
  replace hr5 : r5 = pRem (σ 3 11) 100 := hr5.trans (px_dr_1 _ _)
  try rw [← hr5] at h
  obtain ⟨g6, h⟩ := px_gd h
  refine And.intro g6 ?_
  refine And.intro (show (100 : Int) ≠ 0 from by decide) (fun r7 hr7 => ?_)
  replace hr7 : r7 = pRem (σ 24 4) 100 := hr7.trans (px_dr_1 _ _)
  try rw [← hr7] at h
  obtain ⟨⟨vq8, σq8⟩, hq8, h⟩ := px_bind h
  dsimp only at h
  refine Exists.intro 0 (Exists.intro vq8 (Exists.intro σq8 (And.intro (Nat.le_of_ble_eq_true rfl) (And.intro (ok_Law_tell_16 hq8) ?_))))
  exact (Prod.mk.inj (Option.some.inj h)).2
theorem ok_Mach_tellLaw_3_w {l : Launch} {rv : Int} {rσ : pS} {G : Nat → pL → List pV → pS → Prop} (H : px_R l 1 85 rv rσ G) : ∀ (a1 a2 : Int) (σ : pS), f_Mach_tellLaw_3 a1 a2 σ = some (rv, rσ) → G 0 [some (.inr 3), some (.inl a1), some (.inl a2), none] [] σ := by
  intro a1 a2 σ h
  unfold f_Mach_tellLaw_3 at h
  refine H [((2, 0, 0, 0, []), 1), ((17, 3, 28, 0, []), 3), ((17, 28, 31, 0, []), 3), ((1, 1, 0, 0, []), 1), ((19, 31, 20, 0, []), 1), ((0, 0, 0, (-1), []), 1), ((13, 1, 18, 0, []), 3), ((0, 0, 0, 16, []), 2), ((12, 0, 27, 0, []), 3)] 0 _ _ _ (by decide +kernel) ?_
  obtain ⟨g1, h⟩ := px_gd h
  refine And.intro g1 ?_
  rcases px_ite h with ⟨c2, h⟩ | ⟨c2, h⟩
  · refine And.intro (fun hp => absurd c2 hp) (fun _ => ?_)
    exact ok_Mach_tellLaw_3_p27 H _ _ _ _ h
  · refine And.intro (fun _ => ?_) (fun hn => absurd c2 hn)
    refine H [((2, 0, 0, 0, []), 1), ((17, 3, 28, 0, []), 3), ((17, 28, 31, 0, []), 3), ((1, 1, 0, 0, []), 1), ((19, 31, 20, 0, []), 1)] 18 _ _ _ (by decide +kernel) ?_
    obtain ⟨g3, h⟩ := px_gd h
    refine And.intro g3 ?_
    exact ok_Mach_tellLaw_3_p27 H _ _ _ _ h
theorem ok_Mach_tellLaw_3 {l : Launch} {a1 a2 : Int} {σ : pS} {v : Int} {σ1 : pS} (h : f_Mach_tellLaw_3 a1 a2 σ = some (v, σ1)) : Con l 1 85 [.inr 3, .inl a1, .inl a2] σ v σ1 := Con_mk 3 4 rfl (by decide +kernel) (fun _ H => ok_Mach_tellLaw_3_w H _ _ _ h)
theorem ok_Law_joined_w {l : Launch} {rv : Int} {rσ : pS} {G : Nat → pL → List pV → pS → Prop} (H : px_R l 0 90 rv rσ G) : ∀ (a0 a1 a2 : Int) (σ : pS), f_Law_joined a0 a1 a2 σ = some (rv, rσ) → G 0 [some (.inl a0), some (.inl a1), some (.inl a2)] [] σ := by
  intro a0 a1 a2 σ h
  unfold f_Law_joined at h
  refine H [((1, 0, 0, 0, []), 1), ((15, 0, 157, 0, [(42, 108), (43, 100), (44, 157), (45, 104), (46, 157), (47, 145), (48, 157), (49, 157), (50, 157), (51, 157), (52, 157), (53, 157), (54, 157), (55, 157), (56, 157), (57, 157), (58, 157), (59, 157), (60, 112), (61, 134), (62, 123)]), 99)] 0 _ _ _ (by decide +kernel) ?_
  rcases px_ite h with ⟨c1, h⟩ | ⟨c1, h⟩
  · refine And.intro (fun _ => ?_) (fun hn => absurd c1 hn)
    refine H [((1, 1, 0, 0, []), 1), ((1, 2, 0, 0, []), 1), ((6, 2, 0, 0, []), 1), ((27, 0, 0, 0, []), 1)] 108 _ _ _ (by decide +kernel) ?_
    exact Prod.mk.inj (Option.some.inj h)
  · refine And.intro (fun hp => absurd hp c1) (fun _ => ?_)
    rcases px_ite h with ⟨c2, h⟩ | ⟨c2, h⟩
    · refine And.intro (fun _ => ?_) (fun hn => absurd c2 hn)
      refine H [((1, 1, 0, 0, []), 1), ((1, 2, 0, 0, []), 1), ((6, 0, 0, 0, []), 1), ((27, 0, 0, 0, []), 1)] 100 _ _ _ (by decide +kernel) ?_
      exact Prod.mk.inj (Option.some.inj h)
    · refine And.intro (fun hp => absurd hp c2) (fun _ => ?_)
      rcases px_ite h with ⟨c3, h⟩ | ⟨c3, h⟩
      · refine And.intro (fun _ => ?_) (fun hn => absurd c3 hn)
        refine H [((1, 2, 0, 0, []), 1), ((14, 1, 165, 0, []), 3), ((0, 0, 0, 0, []), 1), ((12, 0, 168, 0, []), 3), ((27, 0, 0, 0, []), 1)] 157 _ _ _ (by decide +kernel) ?_
        rcases px_ite h with ⟨c4, h⟩ | ⟨c4, h⟩
        · refine And.intro (fun hp => absurd c4 hp) (fun _ => ?_)
          exact Prod.mk.inj (Option.some.inj h)
        · refine And.intro (fun _ => ?_) (fun hn => absurd c4 hn)
          refine H [((1, 1, 0, 0, []), 1), ((1, 2, 0, 0, []), 1), ((7, 1, 0, 0, []), 1), ((27, 0, 0, 0, []), 1)] 165 _ _ _ (by decide +kernel) ?_
          obtain ⟨g6, h⟩ := px_gd h
          refine And.intro g6 (fun r5 hr5 => ?_)
          replace hr5 : r5 = pRem a1 a2 := hr5.trans (px_dr_1 _ _)
          try rw [← hr5] at h
          exact Prod.mk.inj (Option.some.inj h)
      · refine And.intro (fun hp => absurd hp c3) (fun _ => ?_)
        rcases px_ite h with ⟨c7, h⟩ | ⟨c7, h⟩
        · refine And.intro (fun _ => ?_) (fun hn => absurd c7 hn)
          refine H [((1, 1, 0, 0, []), 1), ((1, 2, 0, 0, []), 1), ((6, 1, 0, 0, []), 1), ((27, 0, 0, 0, []), 1)] 104 _ _ _ (by decide +kernel) ?_
          exact Prod.mk.inj (Option.some.inj h)
        · refine And.intro (fun hp => absurd hp c7) (fun _ => ?_)
          rcases px_ite h with ⟨c8, h⟩ | ⟨c8, h⟩
          · refine And.intro (fun _ => ?_) (fun hn => absurd c8 hn)
            refine H [((1, 2, 0, 0, []), 1), ((14, 1, 165, 0, []), 3), ((0, 0, 0, 0, []), 1), ((12, 0, 168, 0, []), 3), ((27, 0, 0, 0, []), 1)] 157 _ _ _ (by decide +kernel) ?_
            rcases px_ite h with ⟨c9, h⟩ | ⟨c9, h⟩
            · refine And.intro (fun hp => absurd c9 hp) (fun _ => ?_)
              exact Prod.mk.inj (Option.some.inj h)
            · refine And.intro (fun _ => ?_) (fun hn => absurd c9 hn)
              refine H [((1, 1, 0, 0, []), 1), ((1, 2, 0, 0, []), 1), ((7, 1, 0, 0, []), 1), ((27, 0, 0, 0, []), 1)] 165 _ _ _ (by decide +kernel) ?_
              obtain ⟨g11, h⟩ := px_gd h
              refine And.intro g11 (fun r10 hr10 => ?_)
              replace hr10 : r10 = pRem a1 a2 := hr10.trans (px_dr_1 _ _)
              try rw [← hr10] at h
              exact Prod.mk.inj (Option.some.inj h)
          · refine And.intro (fun hp => absurd hp c8) (fun _ => ?_)
            rcases px_ite h with ⟨c12, h⟩ | ⟨c12, h⟩
            · refine And.intro (fun _ => ?_) (fun hn => absurd c12 hn)
              refine H [((1, 2, 0, 0, []), 1), ((14, 1, 153, 0, []), 3), ((0, 0, 0, 0, []), 1), ((12, 0, 156, 0, []), 3), ((27, 0, 0, 0, []), 1)] 145 _ _ _ (by decide +kernel) ?_
              rcases px_ite h with ⟨c13, h⟩ | ⟨c13, h⟩
              · refine And.intro (fun hp => absurd c13 hp) (fun _ => ?_)
                exact Prod.mk.inj (Option.some.inj h)
              · refine And.intro (fun _ => ?_) (fun hn => absurd c13 hn)
                refine H [((1, 1, 0, 0, []), 1), ((1, 2, 0, 0, []), 1), ((7, 0, 0, 0, []), 1), ((27, 0, 0, 0, []), 1)] 153 _ _ _ (by decide +kernel) ?_
                obtain ⟨g15, h⟩ := px_gd h
                refine And.intro g15 (fun r14 hr14 => ?_)
                replace hr14 : r14 = pDiv a1 a2 := hr14.trans (px_dr_0 _ _)
                try rw [← hr14] at h
                exact Prod.mk.inj (Option.some.inj h)
            · refine And.intro (fun hp => absurd hp c12) (fun _ => ?_)
              rcases px_ite h with ⟨c16, h⟩ | ⟨c16, h⟩
              · refine And.intro (fun _ => ?_) (fun hn => absurd c16 hn)
                refine H [((1, 2, 0, 0, []), 1), ((14, 1, 165, 0, []), 3), ((0, 0, 0, 0, []), 1), ((12, 0, 168, 0, []), 3), ((27, 0, 0, 0, []), 1)] 157 _ _ _ (by decide +kernel) ?_
                rcases px_ite h with ⟨c17, h⟩ | ⟨c17, h⟩
                · refine And.intro (fun hp => absurd c17 hp) (fun _ => ?_)
                  exact Prod.mk.inj (Option.some.inj h)
                · refine And.intro (fun _ => ?_) (fun hn => absurd c17 hn)
                  refine H [((1, 1, 0, 0, []), 1), ((1, 2, 0, 0, []), 1), ((7, 1, 0, 0, []), 1), ((27, 0, 0, 0, []), 1)] 165 _ _ _ (by decide +kernel) ?_
                  obtain ⟨g19, h⟩ := px_gd h
                  refine And.intro g19 (fun r18 hr18 => ?_)
                  replace hr18 : r18 = pRem a1 a2 := hr18.trans (px_dr_1 _ _)
                  try rw [← hr18] at h
                  exact Prod.mk.inj (Option.some.inj h)
              · refine And.intro (fun hp => absurd hp c16) (fun _ => ?_)
                rcases px_ite h with ⟨c20, h⟩ | ⟨c20, h⟩
                · refine And.intro (fun _ => ?_) (fun hn => absurd c20 hn)
                  refine H [((1, 2, 0, 0, []), 1), ((14, 1, 165, 0, []), 3), ((0, 0, 0, 0, []), 1), ((12, 0, 168, 0, []), 3), ((27, 0, 0, 0, []), 1)] 157 _ _ _ (by decide +kernel) ?_
                  rcases px_ite h with ⟨c21, h⟩ | ⟨c21, h⟩
                  · refine And.intro (fun hp => absurd c21 hp) (fun _ => ?_)
                    exact Prod.mk.inj (Option.some.inj h)
                  · refine And.intro (fun _ => ?_) (fun hn => absurd c21 hn)
                    refine H [((1, 1, 0, 0, []), 1), ((1, 2, 0, 0, []), 1), ((7, 1, 0, 0, []), 1), ((27, 0, 0, 0, []), 1)] 165 _ _ _ (by decide +kernel) ?_
                    obtain ⟨g23, h⟩ := px_gd h
                    refine And.intro g23 (fun r22 hr22 => ?_)
                    replace hr22 : r22 = pRem a1 a2 := hr22.trans (px_dr_1 _ _)
                    try rw [← hr22] at h
                    exact Prod.mk.inj (Option.some.inj h)
                · refine And.intro (fun hp => absurd hp c20) (fun _ => ?_)
                  rcases px_ite h with ⟨c24, h⟩ | ⟨c24, h⟩
                  · refine And.intro (fun _ => ?_) (fun hn => absurd c24 hn)
                    refine H [((1, 2, 0, 0, []), 1), ((14, 1, 165, 0, []), 3), ((0, 0, 0, 0, []), 1), ((12, 0, 168, 0, []), 3), ((27, 0, 0, 0, []), 1)] 157 _ _ _ (by decide +kernel) ?_
                    rcases px_ite h with ⟨c25, h⟩ | ⟨c25, h⟩
                    · refine And.intro (fun hp => absurd c25 hp) (fun _ => ?_)
                      exact Prod.mk.inj (Option.some.inj h)
                    · refine And.intro (fun _ => ?_) (fun hn => absurd c25 hn)
                      refine H [((1, 1, 0, 0, []), 1), ((1, 2, 0, 0, []), 1), ((7, 1, 0, 0, []), 1), ((27, 0, 0, 0, []), 1)] 165 _ _ _ (by decide +kernel) ?_
                      obtain ⟨g27, h⟩ := px_gd h
                      refine And.intro g27 (fun r26 hr26 => ?_)
                      replace hr26 : r26 = pRem a1 a2 := hr26.trans (px_dr_1 _ _)
                      try rw [← hr26] at h
                      exact Prod.mk.inj (Option.some.inj h)
                  · refine And.intro (fun hp => absurd hp c24) (fun _ => ?_)
                    rcases px_ite h with ⟨c28, h⟩ | ⟨c28, h⟩
                    · refine And.intro (fun _ => ?_) (fun hn => absurd c28 hn)
                      refine H [((1, 2, 0, 0, []), 1), ((14, 1, 165, 0, []), 3), ((0, 0, 0, 0, []), 1), ((12, 0, 168, 0, []), 3), ((27, 0, 0, 0, []), 1)] 157 _ _ _ (by decide +kernel) ?_
                      rcases px_ite h with ⟨c29, h⟩ | ⟨c29, h⟩
                      · refine And.intro (fun hp => absurd c29 hp) (fun _ => ?_)
                        exact Prod.mk.inj (Option.some.inj h)
                      · refine And.intro (fun _ => ?_) (fun hn => absurd c29 hn)
                        refine H [((1, 1, 0, 0, []), 1), ((1, 2, 0, 0, []), 1), ((7, 1, 0, 0, []), 1), ((27, 0, 0, 0, []), 1)] 165 _ _ _ (by decide +kernel) ?_
                        obtain ⟨g31, h⟩ := px_gd h
                        refine And.intro g31 (fun r30 hr30 => ?_)
                        replace hr30 : r30 = pRem a1 a2 := hr30.trans (px_dr_1 _ _)
                        try rw [← hr30] at h
                        exact Prod.mk.inj (Option.some.inj h)
                    · refine And.intro (fun hp => absurd hp c28) (fun _ => ?_)
                      rcases px_ite h with ⟨c32, h⟩ | ⟨c32, h⟩
                      · refine And.intro (fun _ => ?_) (fun hn => absurd c32 hn)
                        refine H [((1, 2, 0, 0, []), 1), ((14, 1, 165, 0, []), 3), ((0, 0, 0, 0, []), 1), ((12, 0, 168, 0, []), 3), ((27, 0, 0, 0, []), 1)] 157 _ _ _ (by decide +kernel) ?_
                        rcases px_ite h with ⟨c33, h⟩ | ⟨c33, h⟩
                        · refine And.intro (fun hp => absurd c33 hp) (fun _ => ?_)
                          exact Prod.mk.inj (Option.some.inj h)
                        · refine And.intro (fun _ => ?_) (fun hn => absurd c33 hn)
                          refine H [((1, 1, 0, 0, []), 1), ((1, 2, 0, 0, []), 1), ((7, 1, 0, 0, []), 1), ((27, 0, 0, 0, []), 1)] 165 _ _ _ (by decide +kernel) ?_
                          obtain ⟨g35, h⟩ := px_gd h
                          refine And.intro g35 (fun r34 hr34 => ?_)
                          replace hr34 : r34 = pRem a1 a2 := hr34.trans (px_dr_1 _ _)
                          try rw [← hr34] at h
                          exact Prod.mk.inj (Option.some.inj h)
                      · refine And.intro (fun hp => absurd hp c32) (fun _ => ?_)
                        rcases px_ite h with ⟨c36, h⟩ | ⟨c36, h⟩
                        · refine And.intro (fun _ => ?_) (fun hn => absurd c36 hn)
                          refine H [((1, 2, 0, 0, []), 1), ((14, 1, 165, 0, []), 3), ((0, 0, 0, 0, []), 1), ((12, 0, 168, 0, []), 3), ((27, 0, 0, 0, []), 1)] 157 _ _ _ (by decide +kernel) ?_
                          rcases px_ite h with ⟨c37, h⟩ | ⟨c37, h⟩
                          · refine And.intro (fun hp => absurd c37 hp) (fun _ => ?_)
                            exact Prod.mk.inj (Option.some.inj h)
                          · refine And.intro (fun _ => ?_) (fun hn => absurd c37 hn)
                            refine H [((1, 1, 0, 0, []), 1), ((1, 2, 0, 0, []), 1), ((7, 1, 0, 0, []), 1), ((27, 0, 0, 0, []), 1)] 165 _ _ _ (by decide +kernel) ?_
                            obtain ⟨g39, h⟩ := px_gd h
                            refine And.intro g39 (fun r38 hr38 => ?_)
                            replace hr38 : r38 = pRem a1 a2 := hr38.trans (px_dr_1 _ _)
                            try rw [← hr38] at h
                            exact Prod.mk.inj (Option.some.inj h)
                        · refine And.intro (fun hp => absurd hp c36) (fun _ => ?_)
                          rcases px_ite h with ⟨c40, h⟩ | ⟨c40, h⟩
                          · refine And.intro (fun _ => ?_) (fun hn => absurd c40 hn)
                            refine H [((1, 2, 0, 0, []), 1), ((14, 1, 165, 0, []), 3), ((0, 0, 0, 0, []), 1), ((12, 0, 168, 0, []), 3), ((27, 0, 0, 0, []), 1)] 157 _ _ _ (by decide +kernel) ?_
                            rcases px_ite h with ⟨c41, h⟩ | ⟨c41, h⟩
                            · refine And.intro (fun hp => absurd c41 hp) (fun _ => ?_)
                              exact Prod.mk.inj (Option.some.inj h)
                            · refine And.intro (fun _ => ?_) (fun hn => absurd c41 hn)
                              refine H [((1, 1, 0, 0, []), 1), ((1, 2, 0, 0, []), 1), ((7, 1, 0, 0, []), 1), ((27, 0, 0, 0, []), 1)] 165 _ _ _ (by decide +kernel) ?_
                              obtain ⟨g43, h⟩ := px_gd h
                              refine And.intro g43 (fun r42 hr42 => ?_)
                              replace hr42 : r42 = pRem a1 a2 := hr42.trans (px_dr_1 _ _)
                              try rw [← hr42] at h
                              exact Prod.mk.inj (Option.some.inj h)
                          · refine And.intro (fun hp => absurd hp c40) (fun _ => ?_)
                            rcases px_ite h with ⟨c44, h⟩ | ⟨c44, h⟩
                            · refine And.intro (fun _ => ?_) (fun hn => absurd c44 hn)
                              refine H [((1, 2, 0, 0, []), 1), ((14, 1, 165, 0, []), 3), ((0, 0, 0, 0, []), 1), ((12, 0, 168, 0, []), 3), ((27, 0, 0, 0, []), 1)] 157 _ _ _ (by decide +kernel) ?_
                              rcases px_ite h with ⟨c45, h⟩ | ⟨c45, h⟩
                              · refine And.intro (fun hp => absurd c45 hp) (fun _ => ?_)
                                exact Prod.mk.inj (Option.some.inj h)
                              · refine And.intro (fun _ => ?_) (fun hn => absurd c45 hn)
                                refine H [((1, 1, 0, 0, []), 1), ((1, 2, 0, 0, []), 1), ((7, 1, 0, 0, []), 1), ((27, 0, 0, 0, []), 1)] 165 _ _ _ (by decide +kernel) ?_
                                obtain ⟨g47, h⟩ := px_gd h
                                refine And.intro g47 (fun r46 hr46 => ?_)
                                replace hr46 : r46 = pRem a1 a2 := hr46.trans (px_dr_1 _ _)
                                try rw [← hr46] at h
                                exact Prod.mk.inj (Option.some.inj h)
                            · refine And.intro (fun hp => absurd hp c44) (fun _ => ?_)
                              rcases px_ite h with ⟨c48, h⟩ | ⟨c48, h⟩
                              · refine And.intro (fun _ => ?_) (fun hn => absurd c48 hn)
                                refine H [((1, 2, 0, 0, []), 1), ((14, 1, 165, 0, []), 3), ((0, 0, 0, 0, []), 1), ((12, 0, 168, 0, []), 3), ((27, 0, 0, 0, []), 1)] 157 _ _ _ (by decide +kernel) ?_
                                rcases px_ite h with ⟨c49, h⟩ | ⟨c49, h⟩
                                · refine And.intro (fun hp => absurd c49 hp) (fun _ => ?_)
                                  exact Prod.mk.inj (Option.some.inj h)
                                · refine And.intro (fun _ => ?_) (fun hn => absurd c49 hn)
                                  refine H [((1, 1, 0, 0, []), 1), ((1, 2, 0, 0, []), 1), ((7, 1, 0, 0, []), 1), ((27, 0, 0, 0, []), 1)] 165 _ _ _ (by decide +kernel) ?_
                                  obtain ⟨g51, h⟩ := px_gd h
                                  refine And.intro g51 (fun r50 hr50 => ?_)
                                  replace hr50 : r50 = pRem a1 a2 := hr50.trans (px_dr_1 _ _)
                                  try rw [← hr50] at h
                                  exact Prod.mk.inj (Option.some.inj h)
                              · refine And.intro (fun hp => absurd hp c48) (fun _ => ?_)
                                rcases px_ite h with ⟨c52, h⟩ | ⟨c52, h⟩
                                · refine And.intro (fun _ => ?_) (fun hn => absurd c52 hn)
                                  refine H [((1, 2, 0, 0, []), 1), ((14, 1, 165, 0, []), 3), ((0, 0, 0, 0, []), 1), ((12, 0, 168, 0, []), 3), ((27, 0, 0, 0, []), 1)] 157 _ _ _ (by decide +kernel) ?_
                                  rcases px_ite h with ⟨c53, h⟩ | ⟨c53, h⟩
                                  · refine And.intro (fun hp => absurd c53 hp) (fun _ => ?_)
                                    exact Prod.mk.inj (Option.some.inj h)
                                  · refine And.intro (fun _ => ?_) (fun hn => absurd c53 hn)
                                    refine H [((1, 1, 0, 0, []), 1), ((1, 2, 0, 0, []), 1), ((7, 1, 0, 0, []), 1), ((27, 0, 0, 0, []), 1)] 165 _ _ _ (by decide +kernel) ?_
                                    obtain ⟨g55, h⟩ := px_gd h
                                    refine And.intro g55 (fun r54 hr54 => ?_)
                                    replace hr54 : r54 = pRem a1 a2 := hr54.trans (px_dr_1 _ _)
                                    try rw [← hr54] at h
                                    exact Prod.mk.inj (Option.some.inj h)
                                · refine And.intro (fun hp => absurd hp c52) (fun _ => ?_)
                                  rcases px_ite h with ⟨c56, h⟩ | ⟨c56, h⟩
                                  · refine And.intro (fun _ => ?_) (fun hn => absurd c56 hn)
                                    refine H [((1, 2, 0, 0, []), 1), ((14, 1, 165, 0, []), 3), ((0, 0, 0, 0, []), 1), ((12, 0, 168, 0, []), 3), ((27, 0, 0, 0, []), 1)] 157 _ _ _ (by decide +kernel) ?_
                                    rcases px_ite h with ⟨c57, h⟩ | ⟨c57, h⟩
                                    · refine And.intro (fun hp => absurd c57 hp) (fun _ => ?_)
                                      exact Prod.mk.inj (Option.some.inj h)
                                    · refine And.intro (fun _ => ?_) (fun hn => absurd c57 hn)
                                      refine H [((1, 1, 0, 0, []), 1), ((1, 2, 0, 0, []), 1), ((7, 1, 0, 0, []), 1), ((27, 0, 0, 0, []), 1)] 165 _ _ _ (by decide +kernel) ?_
                                      obtain ⟨g59, h⟩ := px_gd h
                                      refine And.intro g59 (fun r58 hr58 => ?_)
                                      replace hr58 : r58 = pRem a1 a2 := hr58.trans (px_dr_1 _ _)
                                      try rw [← hr58] at h
                                      exact Prod.mk.inj (Option.some.inj h)
                                  · refine And.intro (fun hp => absurd hp c56) (fun _ => ?_)
                                    rcases px_ite h with ⟨c60, h⟩ | ⟨c60, h⟩
                                    · refine And.intro (fun _ => ?_) (fun hn => absurd c60 hn)
                                      refine H [((1, 2, 0, 0, []), 1), ((14, 1, 165, 0, []), 3), ((0, 0, 0, 0, []), 1), ((12, 0, 168, 0, []), 3), ((27, 0, 0, 0, []), 1)] 157 _ _ _ (by decide +kernel) ?_
                                      rcases px_ite h with ⟨c61, h⟩ | ⟨c61, h⟩
                                      · refine And.intro (fun hp => absurd c61 hp) (fun _ => ?_)
                                        exact Prod.mk.inj (Option.some.inj h)
                                      · refine And.intro (fun _ => ?_) (fun hn => absurd c61 hn)
                                        refine H [((1, 1, 0, 0, []), 1), ((1, 2, 0, 0, []), 1), ((7, 1, 0, 0, []), 1), ((27, 0, 0, 0, []), 1)] 165 _ _ _ (by decide +kernel) ?_
                                        obtain ⟨g63, h⟩ := px_gd h
                                        refine And.intro g63 (fun r62 hr62 => ?_)
                                        replace hr62 : r62 = pRem a1 a2 := hr62.trans (px_dr_1 _ _)
                                        try rw [← hr62] at h
                                        exact Prod.mk.inj (Option.some.inj h)
                                    · refine And.intro (fun hp => absurd hp c60) (fun _ => ?_)
                                      rcases px_ite h with ⟨c64, h⟩ | ⟨c64, h⟩
                                      · refine And.intro (fun _ => ?_) (fun hn => absurd c64 hn)
                                        refine H [((1, 1, 0, 0, []), 1), ((1, 2, 0, 0, []), 1), ((13, 3, 121, 0, []), 3), ((0, 0, 0, 1, []), 1), ((12, 0, 122, 0, []), 3), ((27, 0, 0, 0, []), 1)] 112 _ _ _ (by decide +kernel) ?_
                                        rcases px_ite h with ⟨c65, h⟩ | ⟨c65, h⟩
                                        · refine And.intro (fun _ => ?_) (fun hn => absurd c65 hn)
                                          refine H [((0, 0, 0, 0, []), 1), ((27, 0, 0, 0, []), 1)] 121 _ _ _ (by decide +kernel) ?_
                                          exact Prod.mk.inj (Option.some.inj h)
                                        · refine And.intro (fun hp => absurd hp c65) (fun _ => ?_)
                                          exact Prod.mk.inj (Option.some.inj h)
                                      · refine And.intro (fun hp => absurd hp c64) (fun _ => ?_)
                                        rcases px_ite h with ⟨c66, h⟩ | ⟨c66, h⟩
                                        · refine And.intro (fun _ => ?_) (fun hn => absurd c66 hn)
                                          refine H [((1, 1, 0, 0, []), 1), ((1, 2, 0, 0, []), 1), ((13, 1, 143, 0, []), 3), ((0, 0, 0, 1, []), 1), ((12, 0, 144, 0, []), 3), ((27, 0, 0, 0, []), 1)] 134 _ _ _ (by decide +kernel) ?_
                                          rcases px_ite h with ⟨c67, h⟩ | ⟨c67, h⟩
                                          · refine And.intro (fun hp => absurd c67 hp) (fun _ => ?_)
                                            exact Prod.mk.inj (Option.some.inj h)
                                          · refine And.intro (fun _ => ?_) (fun hn => absurd c67 hn)
                                            refine H [((0, 0, 0, 0, []), 1), ((27, 0, 0, 0, []), 1)] 143 _ _ _ (by decide +kernel) ?_
                                            exact Prod.mk.inj (Option.some.inj h)
                                        · refine And.intro (fun hp => absurd hp c66) (fun _ => ?_)
                                          rcases px_ite h with ⟨c68, h⟩ | ⟨c68, h⟩
                                          · refine And.intro (fun _ => ?_) (fun hn => absurd c68 hn)
                                            refine H [((1, 1, 0, 0, []), 1), ((1, 2, 0, 0, []), 1), ((13, 5, 132, 0, []), 3), ((0, 0, 0, 1, []), 1), ((12, 0, 133, 0, []), 3), ((27, 0, 0, 0, []), 1)] 123 _ _ _ (by decide +kernel) ?_
                                            rcases px_ite h with ⟨c69, h⟩ | ⟨c69, h⟩
                                            · refine And.intro (fun _ => ?_) (fun hn => absurd c69 hn)
                                              refine H [((0, 0, 0, 0, []), 1), ((27, 0, 0, 0, []), 1)] 132 _ _ _ (by decide +kernel) ?_
                                              exact Prod.mk.inj (Option.some.inj h)
                                            · refine And.intro (fun hp => absurd hp c69) (fun _ => ?_)
                                              exact Prod.mk.inj (Option.some.inj h)
                                          · refine And.intro (fun hp => absurd hp c68) (fun _ => ?_)
                                            refine H [((1, 2, 0, 0, []), 1), ((14, 1, 165, 0, []), 3), ((0, 0, 0, 0, []), 1), ((12, 0, 168, 0, []), 3), ((27, 0, 0, 0, []), 1)] 157 _ _ _ (by decide +kernel) ?_
                                            rcases px_ite h with ⟨c70, h⟩ | ⟨c70, h⟩
                                            · refine And.intro (fun hp => absurd c70 hp) (fun _ => ?_)
                                              exact Prod.mk.inj (Option.some.inj h)
                                            · refine And.intro (fun _ => ?_) (fun hn => absurd c70 hn)
                                              refine H [((1, 1, 0, 0, []), 1), ((1, 2, 0, 0, []), 1), ((7, 1, 0, 0, []), 1), ((27, 0, 0, 0, []), 1)] 165 _ _ _ (by decide +kernel) ?_
                                              obtain ⟨g72, h⟩ := px_gd h
                                              refine And.intro g72 (fun r71 hr71 => ?_)
                                              replace hr71 : r71 = pRem a1 a2 := hr71.trans (px_dr_1 _ _)
                                              try rw [← hr71] at h
                                              exact Prod.mk.inj (Option.some.inj h)
theorem ok_Law_joined {l : Launch} {a0 a1 a2 : Int} {σ : pS} {v : Int} {σ1 : pS} (h : f_Law_joined a0 a1 a2 σ = some (v, σ1)) : Con l 0 90 [.inl a0, .inl a1, .inl a2] σ v σ1 := Con_mk 3 3 rfl (by decide +kernel) (fun _ H => ok_Law_joined_w H _ _ _ _ h)
theorem ok_Law_reckon_16_p270 {l : Launch} {rv : Int} {rσ : pS} {G : Nat → pL → List pV → pS → Prop} (H : px_R l 1 89 rv rσ G) : ∀ (a3 : Int) (σ : pS), f_Law_reckon_16_p270 a3 σ = some (rv, rσ) → G 270 [some (.inr 16), none, none, some (.inl a3), none, none, none] [] σ := by
  intro a3 σ h
  unfold f_Law_reckon_16_p270 at h
  refine H [((1, 3, 0, 0, []), 1), ((14, 5, 283, 0, []), 3), ((2, 0, 0, 0, []), 1), ((17, 16, 23, 0, []), 3), ((0, 0, 0, 0, []), 1), ((19, 23, 64, 0, []), 1), ((12, 0, 284, 0, []), 3), ((27, 0, 0, 0, []), 1)] 270 _ _ _ (by decide +kernel) ?_
  rcases px_ite h with ⟨c2, h⟩ | ⟨c2, h⟩
  · refine And.intro (fun _ => ?_) (fun hn => absurd c2 hn)
    refine H [((0, 0, 0, 0, []), 1), ((27, 0, 0, 0, []), 1)] 283 _ _ _ (by decide +kernel) ?_
    exact Prod.mk.inj (Option.some.inj h)
  · refine And.intro (fun hp => absurd hp c2) (fun _ => ?_)
    refine And.intro (show (0 : Int) ≤ 0 ∧ (0 : Int) < 64 from by decide) ?_
    exact Prod.mk.inj (Option.some.inj h)
theorem ok_Law_reckon_16_p55 {l : Launch} {rv : Int} {rσ : pS} {G : Nat → pL → List pV → pS → Prop} (H : px_R l 1 89 rv rσ G) {k_8 : Int → Int → Int → Int → pS → Option (Int × pS)} (hk_8 : ∀ (a2 a3 a4 a5 : Int) (σ : pS), k_8 a2 a3 a4 a5 σ = some (rv, rσ) → G 8 [some (.inr 16), none, some (.inl a2), some (.inl a3), some (.inl a4), some (.inl a5), none] [] σ) : ∀ (a2 a3 a4 a5 a6 : Int) (σ : pS), f_Law_reckon_16_p55 k_8 a2 a3 a4 a5 a6 σ = some (rv, rσ) → G 55 [some (.inr 16), none, some (.inl a2), some (.inl a3), some (.inl a4), some (.inl a5), some (.inl a6)] [] σ := by
  intro a2 a3 a4 a5 a6 σ h
  unfold f_Law_reckon_16_p55 at h
  refine H [((1, 3, 0, 0, []), 1), ((0, 0, 0, 64, []), 2), ((13, 2, 63, 0, []), 3), ((0, 0, 0, 0, []), 1), ((27, 0, 0, 0, []), 1)] 55 _ _ _ (by decide +kernel) ?_
  rcases px_ite h with ⟨c7, h⟩ | ⟨c7, h⟩
  · refine And.intro (fun _ => ?_) (fun hn => absurd c7 hn)
    refine H [((2, 0, 0, 0, []), 1), ((17, 16, 23, 0, []), 3), ((1, 3, 0, 0, []), 1), ((1, 6, 0, 0, []), 2), ((0, 0, 0, 48, []), 2), ((13, 1, 85, 0, []), 3), ((2, 0, 0, 0, []), 1), ((17, 16, 21, 0, []), 3), ((1, 5, 0, 0, []), 2), ((19, 21, 240, 0, []), 1), ((12, 0, 97, 0, []), 3), ((20, 23, 64, 0, []), 1), ((5, 3, 0, 1, []), 3), ((12, 0, 264, 0, []), 3), ((5, 5, 0, 1, []), 3), ((12, 0, 8, 0, []), 3), ((29, 6, 0, 0, []), 0)] 63 _ _ _ (by decide +kernel) ?_
    rcases px_ite h with ⟨c8, h⟩ | ⟨c8, h⟩
    · refine And.intro (fun hp => absurd c8 hp) (fun _ => ?_)
      obtain ⟨g12, h⟩ := px_gd h
      refine And.intro g12 ?_
      obtain ⟨g13, h⟩ := px_gd h
      refine And.intro g13 ?_
      exact hk_8 _ _ _ _ _ h
    · refine And.intro (fun _ => ?_) (fun hn => absurd c8 hn)
      refine H [((2, 0, 0, 0, []), 1), ((17, 16, 22, 0, []), 3), ((2, 0, 0, 0, []), 1), ((17, 16, 21, 0, []), 3), ((1, 5, 0, 0, []), 2), ((19, 21, 240, 0, []), 1), ((19, 22, 7, 0, []), 1), ((20, 23, 64, 0, []), 1), ((5, 3, 0, 1, []), 3), ((12, 0, 264, 0, []), 3), ((5, 5, 0, 1, []), 3), ((12, 0, 8, 0, []), 3), ((29, 6, 0, 0, []), 0)] 85 _ _ _ (by decide +kernel) ?_
      obtain ⟨g9, h⟩ := px_gd h
      refine And.intro g9 ?_
      obtain ⟨g10, h⟩ := px_gd h
      refine And.intro g10 ?_
      obtain ⟨g11, h⟩ := px_gd h
      refine And.intro g11 ?_
      exact hk_8 _ _ _ _ _ h
  · refine And.intro (fun hp => absurd hp c7) (fun _ => ?_)
    exact Prod.mk.inj (Option.some.inj h)
theorem ok_Law_reckon_16_p181 {l : Launch} {rv : Int} {rσ : pS} {G : Nat → pL → List pV → pS → Prop} (H : px_R l 1 89 rv rσ G) {k_8 : Int → Int → Int → Int → pS → Option (Int × pS)} (hk_8 : ∀ (a2 a3 a4 a5 : Int) (σ : pS), k_8 a2 a3 a4 a5 σ = some (rv, rσ) → G 8 [some (.inr 16), none, some (.inl a2), some (.inl a3), some (.inl a4), some (.inl a5), none] [] σ) : ∀ (a2 a3 a4 a5 s0 s1 : Int) (σ : pS), f_Law_reckon_16_p181 k_8 a2 a3 a4 a5 s0 s1 σ = some (rv, rσ) → G 181 [some (.inr 16), none, some (.inl a2), some (.inl a3), some (.inl a4), some (.inl a5), none] [.inl s0, .inl s1] σ := by
  intro a2 a3 a4 a5 s0 s1 σ h
  unfold f_Law_reckon_16_p181 at h
  refine H [((13, 1, 196, 0, []), 3), ((2, 0, 0, 0, []), 1), ((17, 16, 21, 0, []), 3), ((1, 5, 0, 0, []), 2), ((19, 21, 240, 0, []), 1), ((3, 4, 0, 0, []), 2), ((12, 0, 264, 0, []), 3), ((5, 5, 0, 1, []), 3), ((12, 0, 8, 0, []), 3)] 181 _ _ _ (by decide +kernel) ?_
  rcases px_ite h with ⟨c21, h⟩ | ⟨c21, h⟩
  · refine And.intro (fun hp => absurd c21 hp) (fun _ => ?_)
    obtain ⟨g22, h⟩ := px_gd h
    refine And.intro g22 ?_
    exact hk_8 _ _ _ _ _ h
  · refine And.intro (fun _ => ?_) (fun hn => absurd c21 hn)
    refine H [((5, 3, 0, (-1), []), 3), ((12, 0, 264, 0, []), 3), ((5, 5, 0, 1, []), 3), ((12, 0, 8, 0, []), 3)] 196 _ _ _ (by decide +kernel) ?_
    exact hk_8 _ _ _ _ _ h
theorem ok_Law_reckon_16_p169 {l : Launch} {rv : Int} {rσ : pS} {G : Nat → pL → List pV → pS → Prop} (H : px_R l 1 89 rv rσ G) {k_8 : Int → Int → Int → Int → pS → Option (Int × pS)} (hk_8 : ∀ (a2 a3 a4 a5 : Int) (σ : pS), k_8 a2 a3 a4 a5 σ = some (rv, rσ) → G 8 [some (.inr 16), none, some (.inl a2), some (.inl a3), some (.inl a4), some (.inl a5), none] [] σ) : ∀ (a2 a3 a4 a5 a6 s0 : Int) (σ : pS), f_Law_reckon_16_p169 k_8 a2 a3 a4 a5 a6 s0 σ = some (rv, rσ) → G 169 [some (.inr 16), none, some (.inl a2), some (.inl a3), some (.inl a4), some (.inl a5), some (.inl a6)] [.inl s0] σ := by
  intro a2 a3 a4 a5 a6 s0 σ h
  unfold f_Law_reckon_16_p169 at h
  refine H [((1, 6, 0, 0, []), 2), ((0, 0, 0, 124, []), 2), ((13, 1, 180, 0, []), 3), ((0, 0, 0, 1, []), 1), ((12, 0, 181, 0, []), 3), ((29, 6, 0, 0, []), 0)] 169 _ _ _ (by decide +kernel) ?_
  rcases px_ite h with ⟨c20, h⟩ | ⟨c20, h⟩
  · refine And.intro (fun hp => absurd c20 hp) (fun _ => ?_)
    exact ok_Law_reckon_16_p181 H hk_8 _ _ _ _ _ _ _ h
  · refine And.intro (fun _ => ?_) (fun hn => absurd c20 hn)
    refine H [((0, 0, 0, 0, []), 1), ((29, 6, 0, 0, []), 0)] 180 _ _ _ (by decide +kernel) ?_
    exact ok_Law_reckon_16_p181 H hk_8 _ _ _ _ _ _ _ h
theorem ok_Law_reckon_16_p153 {l : Launch} {rv : Int} {rσ : pS} {G : Nat → pL → List pV → pS → Prop} (H : px_R l 1 89 rv rσ G) {k_8 : Int → Int → Int → Int → pS → Option (Int × pS)} (hk_8 : ∀ (a2 a3 a4 a5 : Int) (σ : pS), k_8 a2 a3 a4 a5 σ = some (rv, rσ) → G 8 [some (.inr 16), none, some (.inl a2), some (.inl a3), some (.inl a4), some (.inl a5), none] [] σ) : ∀ (a2 a3 a4 a5 a6 : Int) (σ : pS), f_Law_reckon_16_p153 k_8 a2 a3 a4 a5 a6 σ = some (rv, rσ) → G 153 [some (.inr 16), none, some (.inl a2), some (.inl a3), some (.inl a4), some (.inl a5), some (.inl a6)] [] σ := by
  intro a2 a3 a4 a5 a6 σ h
  unfold f_Law_reckon_16_p153 at h
  refine H [((2, 0, 0, 0, []), 1), ((17, 16, 23, 0, []), 3), ((1, 3, 0, 0, []), 1), ((0, 0, 0, 1, []), 1), ((6, 1, 0, 0, []), 1), ((19, 23, 64, 0, []), 1), ((14, 0, 168, 0, []), 3), ((0, 0, 0, 1, []), 1), ((12, 0, 169, 0, []), 3)] 153 _ _ _ (by decide +kernel) ?_
  obtain ⟨g18, h⟩ := px_gd h
  refine And.intro g18 ?_
  rcases px_ite h with ⟨c19, h⟩ | ⟨c19, h⟩
  · refine And.intro (fun _ => ?_) (fun hn => absurd c19 hn)
    refine H [((0, 0, 0, 0, []), 1)] 168 _ _ _ (by decide +kernel) ?_
    exact ok_Law_reckon_16_p169 H hk_8 _ _ _ _ _ _ _ h
  · refine And.intro (fun hp => absurd hp c19) (fun _ => ?_)
    exact ok_Law_reckon_16_p169 H hk_8 _ _ _ _ _ _ _ h
theorem ok_Law_reckon_16_p234 {l : Launch} {rv : Int} {rσ : pS} {G : Nat → pL → List pV → pS → Prop} (H : px_R l 1 89 rv rσ G) {k_8 : Int → Int → Int → Int → pS → Option (Int × pS)} (hk_8 : ∀ (a2 a3 a4 a5 : Int) (σ : pS), k_8 a2 a3 a4 a5 σ = some (rv, rσ) → G 8 [some (.inr 16), none, some (.inl a2), some (.inl a3), some (.inl a4), some (.inl a5), none] [] σ) : ∀ (a2 a3 a4 a5 a6 : Int) (σ : pS), f_Law_reckon_16_p234 k_8 a2 a3 a4 a5 a6 σ = some (rv, rσ) → G 234 [some (.inr 16), none, some (.inl a2), some (.inl a3), some (.inl a4), some (.inl a5), some (.inl a6)] [] σ := by
  intro a2 a3 a4 a5 a6 σ h
  unfold f_Law_reckon_16_p234 at h
  refine H [((5, 3, 0, (-1), []), 3), ((2, 0, 0, 0, []), 1), ((17, 16, 23, 0, []), 3), ((1, 3, 0, 0, []), 1), ((0, 0, 0, 1, []), 1), ((6, 1, 0, 0, []), 1), ((1, 6, 0, 0, []), 2), ((2, 0, 0, 0, []), 1), ((17, 16, 23, 0, []), 3), ((1, 3, 0, 0, []), 1), ((0, 0, 0, 1, []), 1), ((6, 1, 0, 0, []), 1), ((19, 23, 64, 0, []), 1), ((2, 0, 0, 0, []), 1), ((17, 16, 23, 0, []), 3), ((1, 3, 0, 0, []), 1), ((19, 23, 64, 0, []), 1), ((24, 90, 3, 1, []), 3), ((20, 23, 64, 0, []), 1), ((5, 5, 0, 1, []), 3), ((12, 0, 8, 0, []), 3), ((29, 6, 0, 0, []), 0)] 234 _ _ _ (by decide +kernel) ?_
  obtain ⟨g27, h⟩ := px_gd h
  refine And.intro g27 ?_
  obtain ⟨g28, h⟩ := px_gd h
  refine And.intro g28 ?_
  obtain ⟨⟨vq29, σq29⟩, hq29, h⟩ := px_bind h
  dsimp only at h
  refine Exists.intro 0 (Exists.intro vq29 (Exists.intro σq29 (And.intro (Nat.le_of_ble_eq_true rfl) (And.intro (ok_Law_joined hq29) ?_))))
  obtain ⟨g30, h⟩ := px_gd h
  refine And.intro g30 ?_
  exact hk_8 _ _ _ _ _ h
theorem ok_Law_reckon_16_p8 {l : Launch} {rv : Int} {rσ : pS} {G : Nat → pL → List pV → pS → Prop} (H : px_R l 1 89 rv rσ G) : ∀ (n : Nat) (a2 a3 a4 a5 : Int) (σ : pS), f_Law_reckon_16_p8 n a2 a3 a4 a5 σ = some (rv, rσ) → G 8 [some (.inr 16), none, some (.inl a2), some (.inl a3), some (.inl a4), some (.inl a5), none] [] σ := by
  intro n
  induction n with
  | zero =>
    intro a2 a3 a4 a5 σ h
    unfold f_Law_reckon_16_p8 at h
    cases h
  | succ n ih =>
    intro a2 a3 a4 a5 σ h
    unfold f_Law_reckon_16_p8 at h
    refine H [((1, 5, 0, 0, []), 2), ((1, 2, 0, 0, []), 1), ((13, 3, 270, 0, []), 3), ((1, 5, 0, 0, []), 2), ((0, 0, 0, 240, []), 3), ((13, 3, 270, 0, []), 3), ((1, 5, 0, 0, []), 2), ((1, 4, 0, 0, []), 2), ((13, 3, 32, 0, []), 3), ((12, 0, 264, 0, []), 3), ((5, 5, 0, 1, []), 3), ((12, 0, 8, 0, []), 3)] 8 _ _ _ (by decide +kernel) ?_
    rcases px_ite h with ⟨c1, h⟩ | ⟨c1, h⟩
    · refine And.intro (fun _ => ?_) (fun hn => absurd c1 hn)
      refine H [((29, 2, 0, 0, []), 0), ((29, 4, 0, 0, []), 0), ((29, 5, 0, 0, []), 0)] 270 _ _ _ (by decide +kernel) ?_
      exact ok_Law_reckon_16_p270 H _ _ h
    · refine And.intro (fun hp => absurd hp c1) (fun _ => ?_)
      rcases px_ite h with ⟨c3, h⟩ | ⟨c3, h⟩
      · refine And.intro (fun _ => ?_) (fun hn => absurd c3 hn)
        refine H [((29, 2, 0, 0, []), 0), ((29, 4, 0, 0, []), 0), ((29, 5, 0, 0, []), 0)] 270 _ _ _ (by decide +kernel) ?_
        exact ok_Law_reckon_16_p270 H _ _ h
      · refine And.intro (fun hp => absurd hp c3) (fun _ => ?_)
        rcases px_ite h with ⟨c4, h⟩ | ⟨c4, h⟩
        · refine And.intro (fun _ => ?_) (fun hn => absurd c4 hn)
          refine H [((2, 0, 0, 0, []), 1), ((17, 16, 20, 0, []), 3), ((1, 5, 0, 0, []), 2), ((19, 20, 240, 0, []), 1), ((3, 6, 0, 0, []), 2), ((1, 6, 0, 0, []), 2), ((0, 0, 0, 48, []), 2), ((13, 0, 55, 0, []), 3), ((1, 6, 0, 0, []), 2), ((0, 0, 0, 97, []), 2), ((13, 1, 104, 0, []), 3)] 32 _ _ _ (by decide +kernel) ?_
          obtain ⟨g5, h⟩ := px_gd h
          refine And.intro g5 ?_
          rcases px_ite h with ⟨c6, h⟩ | ⟨c6, h⟩
          · refine And.intro (fun _ => ?_) (fun hn => absurd c6 hn)
            exact ok_Law_reckon_16_p55 H ih _ _ _ _ _ _ h
          · refine And.intro (fun hp => absurd hp c6) (fun _ => ?_)
            rcases px_ite h with ⟨c14, h⟩ | ⟨c14, h⟩
            · refine And.intro (fun hp => absurd c14 hp) (fun _ => ?_)
              exact ok_Law_reckon_16_p55 H ih _ _ _ _ _ _ h
            · refine And.intro (fun _ => ?_) (fun hn => absurd c14 hn)
              refine H [((1, 3, 0, 0, []), 1), ((0, 0, 0, 1, []), 1), ((13, 3, 111, 0, []), 3), ((0, 0, 0, 0, []), 1), ((27, 0, 0, 0, []), 1)] 104 _ _ _ (by decide +kernel) ?_
              rcases px_ite h with ⟨c15, h⟩ | ⟨c15, h⟩
              · refine And.intro (fun _ => ?_) (fun hn => absurd c15 hn)
                refine H [((1, 6, 0, 0, []), 2), ((0, 0, 0, 33, []), 2), ((13, 1, 139, 0, []), 3), ((2, 0, 0, 0, []), 1), ((17, 16, 23, 0, []), 3), ((1, 3, 0, 0, []), 1), ((0, 0, 0, 1, []), 1), ((6, 1, 0, 0, []), 1), ((0, 0, 0, 1, []), 1), ((2, 0, 0, 0, []), 1), ((17, 16, 23, 0, []), 3), ((1, 3, 0, 0, []), 1), ((0, 0, 0, 1, []), 1), ((6, 1, 0, 0, []), 1), ((19, 23, 64, 0, []), 1), ((6, 1, 0, 0, []), 1), ((20, 23, 64, 0, []), 1), ((12, 0, 264, 0, []), 3), ((5, 5, 0, 1, []), 3), ((12, 0, 8, 0, []), 3), ((29, 6, 0, 0, []), 0)] 111 _ _ _ (by decide +kernel) ?_
                rcases px_ite h with ⟨c16, h⟩ | ⟨c16, h⟩
                · refine And.intro (fun hp => absurd c16 hp) (fun _ => ?_)
                  obtain ⟨g33, h⟩ := px_gd h
                  refine And.intro g33 ?_
                  obtain ⟨g34, h⟩ := px_gd h
                  refine And.intro g34 ?_
                  exact ih _ _ _ _ _ h
                · refine And.intro (fun _ => ?_) (fun hn => absurd c16 hn)
                  refine H [((1, 6, 0, 0, []), 2), ((0, 0, 0, 38, []), 2), ((13, 0, 153, 0, []), 3), ((1, 6, 0, 0, []), 2), ((0, 0, 0, 124, []), 2), ((13, 1, 202, 0, []), 3)] 139 _ _ _ (by decide +kernel) ?_
                  rcases px_ite h with ⟨c17, h⟩ | ⟨c17, h⟩
                  · refine And.intro (fun _ => ?_) (fun hn => absurd c17 hn)
                    exact ok_Law_reckon_16_p153 H ih _ _ _ _ _ _ h
                  · refine And.intro (fun hp => absurd hp c17) (fun _ => ?_)
                    rcases px_ite h with ⟨c23, h⟩ | ⟨c23, h⟩
                    · refine And.intro (fun hp => absurd c23 hp) (fun _ => ?_)
                      exact ok_Law_reckon_16_p153 H ih _ _ _ _ _ _ h
                    · refine And.intro (fun _ => ?_) (fun hn => absurd c23 hn)
                      refine H [((1, 3, 0, 0, []), 1), ((0, 0, 0, 2, []), 1), ((13, 2, 232, 0, []), 3), ((2, 0, 0, 0, []), 1), ((17, 16, 23, 0, []), 3), ((1, 3, 0, 0, []), 1), ((0, 0, 0, 1, []), 1), ((6, 1, 0, 0, []), 1), ((19, 23, 64, 0, []), 1), ((14, 1, 234, 0, []), 3), ((1, 6, 0, 0, []), 2), ((0, 0, 0, 47, []), 2), ((13, 0, 232, 0, []), 3), ((1, 6, 0, 0, []), 2), ((0, 0, 0, 37, []), 2), ((13, 1, 234, 0, []), 3), ((0, 0, 0, 0, []), 1), ((27, 0, 0, 0, []), 1)] 202 _ _ _ (by decide +kernel) ?_
                      rcases px_ite h with ⟨c24, h⟩ | ⟨c24, h⟩
                      · refine And.intro (fun _ => ?_) (fun hn => absurd c24 hn)
                        refine H [((0, 0, 0, 0, []), 1), ((27, 0, 0, 0, []), 1)] 232 _ _ _ (by decide +kernel) ?_
                        exact Prod.mk.inj (Option.some.inj h)
                      · refine And.intro (fun hp => absurd hp c24) (fun _ => ?_)
                        obtain ⟨g25, h⟩ := px_gd h
                        refine And.intro g25 ?_
                        rcases px_ite h with ⟨c26, h⟩ | ⟨c26, h⟩
                        · refine And.intro (fun hp => absurd c26 hp) (fun _ => ?_)
                          rcases px_ite h with ⟨c31, h⟩ | ⟨c31, h⟩
                          · refine And.intro (fun _ => ?_) (fun hn => absurd c31 hn)
                            refine H [((0, 0, 0, 0, []), 1), ((27, 0, 0, 0, []), 1)] 232 _ _ _ (by decide +kernel) ?_
                            exact Prod.mk.inj (Option.some.inj h)
                          · refine And.intro (fun hp => absurd hp c31) (fun _ => ?_)
                            rcases px_ite h with ⟨c32, h⟩ | ⟨c32, h⟩
                            · refine And.intro (fun hp => absurd c32 hp) (fun _ => ?_)
                              exact Prod.mk.inj (Option.some.inj h)
                            · refine And.intro (fun _ => ?_) (fun hn => absurd c32 hn)
                              exact ok_Law_reckon_16_p234 H ih _ _ _ _ _ _ h
                        · refine And.intro (fun _ => ?_) (fun hn => absurd c26 hn)
                          exact ok_Law_reckon_16_p234 H ih _ _ _ _ _ _ h
              · refine And.intro (fun hp => absurd hp c15) (fun _ => ?_)
                exact Prod.mk.inj (Option.some.inj h)
        · refine And.intro (fun hp => absurd hp c4) (fun _ => ?_)
          exact ih _ _ _ _ _ h
theorem ok_Law_reckon_16_w {l : Launch} {rv : Int} {rσ : pS} {G : Nat → pL → List pV → pS → Prop} (H : px_R l 1 89 rv rσ G) : ∀ (a1 a2 : Int) (σ : pS), f_Law_reckon_16 a1 a2 σ = some (rv, rσ) → G 0 [some (.inr 16), some (.inl a1), some (.inl a2), none, none, none, none] [] σ := by
  intro a1 a2 σ h
  unfold f_Law_reckon_16 at h
  refine H [((0, 0, 0, 0, []), 1), ((3, 3, 0, 0, []), 1), ((1, 1, 0, 0, []), 1), ((3, 4, 0, 0, []), 2), ((1, 1, 0, 0, []), 1), ((3, 5, 0, 0, []), 2), ((29, 1, 0, 0, []), 0)] 0 _ _ _ (by decide +kernel) ?_
  exact ok_Law_reckon_16_p8 H _ _ _ _ _ _ h
theorem ok_Law_reckon_16 {l : Launch} {a1 a2 : Int} {σ : pS} {v : Int} {σ1 : pS} (h : f_Law_reckon_16 a1 a2 σ = some (v, σ1)) : Con l 1 89 [.inr 16, .inl a1, .inl a2] σ v σ1 := Con_mk 3 7 rfl (by decide +kernel) (fun _ H => ok_Law_reckon_16_w H _ _ _ h)
theorem ok_Law_holds_16_w {l : Launch} {rv : Int} {rσ : pS} {G : Nat → pL → List pV → pS → Prop} (H : px_R l 2 88 rv rσ G) : ∀ (a1 : Int) (σ : pS), f_Law_holds_16 a1 σ = some (rv, rσ) → G 0 [some (.inr 16), some (.inl a1)] [] σ := by
  intro a1 σ h
  unfold f_Law_holds_16 at h
  refine H [((2, 0, 0, 0, []), 1), ((2, 0, 0, 0, []), 1), ((17, 16, 19, 0, []), 3), ((1, 1, 0, 0, []), 1), ((19, 19, 16, 0, []), 1), ((2, 0, 0, 0, []), 1), ((17, 16, 18, 0, []), 3), ((1, 1, 0, 0, []), 1), ((0, 0, 0, 1, []), 1), ((6, 0, 0, 0, []), 1), ((19, 18, 17, 0, []), 1), ((23, 89, 2, 1, [(0, 16)]), 3), ((14, 0, 25, 0, []), 3), ((0, 0, 0, 1, []), 1), ((12, 0, 26, 0, []), 3), ((27, 1, 0, 0, []), 1)] 0 _ _ _ (by decide +kernel) ?_
  obtain ⟨g1, h⟩ := px_gd h
  refine And.intro g1 ?_
  obtain ⟨g2, h⟩ := px_gd h
  refine And.intro g2 ?_
  obtain ⟨⟨vq3, σq3⟩, hq3, h⟩ := px_bind h
  dsimp only at h
  refine Exists.intro 1 (Exists.intro vq3 (Exists.intro σq3 (And.intro (Nat.le_of_ble_eq_true rfl) (And.intro (ok_Law_reckon_16 hq3) ?_))))
  rcases px_ite h with ⟨c4, h⟩ | ⟨c4, h⟩
  · refine And.intro (fun _ => ?_) (fun hn => absurd c4 hn)
    refine H [((0, 0, 0, 0, []), 1), ((27, 1, 0, 0, []), 1)] 25 _ _ _ (by decide +kernel) ?_
    refine And.intro (show (0 : Int) ≤ 0 ∧ (0 : Int) ≤ 1 from by decide) ?_
    exact Prod.mk.inj (Option.some.inj h)
  · refine And.intro (fun hp => absurd hp c4) (fun _ => ?_)
    refine And.intro (show (0 : Int) ≤ 1 ∧ (1 : Int) ≤ 1 from by decide) ?_
    exact Prod.mk.inj (Option.some.inj h)
theorem ok_Law_holds_16 {l : Launch} {a1 : Int} {σ : pS} {v : Int} {σ1 : pS} (h : f_Law_holds_16 a1 σ = some (v, σ1)) : Con l 2 88 [.inr 16, .inl a1] σ v σ1 := Con_mk 2 2 rfl (by decide +kernel) (fun _ H => ok_Law_holds_16_w H _ _ h)
theorem ok_Law_delay_16_p2 {l : Launch} {rv : Int} {rσ : pS} {G : Nat → pL → List pV → pS → Prop} (H : px_R l 3 87 rv rσ G) : ∀ (n : Nat) (a1 a2 : Int) (σ : pS), f_Law_delay_16_p2 n a1 a2 σ = some (rv, rσ) → G 2 [some (.inr 16), some (.inl a1), some (.inl a2), none] [] σ := by
  intro n
  induction n with
  | zero =>
    intro a1 a2 σ h
    unfold f_Law_delay_16_p2 at h
    cases h
  | succ n ih =>
    intro a1 a2 σ h
    unfold f_Law_delay_16_p2 at h
    refine H [((1, 2, 0, 0, []), 1), ((2, 0, 0, 0, []), 1), ((16, 16, 7, 0, []), 3), ((13, 3, 63, 0, []), 3), ((2, 0, 0, 0, []), 1), ((17, 16, 17, 0, []), 3), ((1, 2, 0, 0, []), 1), ((19, 17, 16, 0, []), 1), ((0, 0, 0, 100, []), 2), ((13, 1, 57, 0, []), 3), ((2, 0, 0, 0, []), 1), ((1, 2, 0, 0, []), 1), ((23, 88, 1, 1, [(0, 16)]), 3), ((14, 0, 57, 0, []), 3), ((2, 0, 0, 0, []), 1), ((2, 0, 0, 0, []), 1), ((17, 16, 18, 0, []), 3), ((1, 2, 0, 0, []), 1), ((19, 18, 17, 0, []), 1), ((2, 0, 0, 0, []), 1), ((17, 16, 19, 0, []), 3), ((1, 2, 0, 0, []), 1), ((19, 19, 16, 0, []), 1), ((23, 89, 2, 1, [(0, 16)]), 3), ((3, 3, 0, 0, []), 1), ((0, 0, 0, 1, []), 1), ((0, 0, 0, 20, []), 2), ((1, 3, 0, 0, []), 1), ((25, 0, 0, 0, []), 3), ((25, 1, 0, 0, []), 3), ((27, 0, 0, 0, []), 1)] 2 _ _ _ (by decide +kernel) ?_
    rcases px_ite h with ⟨c1, h⟩ | ⟨c1, h⟩
    · refine And.intro (fun _ => ?_) (fun hn => absurd c1 hn)
      refine H [((1, 1, 0, 0, []), 1), ((27, 0, 0, 0, []), 1)] 63 _ _ _ (by decide +kernel) ?_
      exact Prod.mk.inj (Option.some.inj h)
    · refine And.intro (fun hp => absurd hp c1) (fun _ => ?_)
      obtain ⟨g2, h⟩ := px_gd h
      refine And.intro g2 ?_
      rcases px_ite h with ⟨c3, h⟩ | ⟨c3, h⟩
      · refine And.intro (fun hp => absurd c3 hp) (fun _ => ?_)
        obtain ⟨⟨vq4, σq4⟩, hq4, h⟩ := px_bind h
        dsimp only at h
        refine Exists.intro 2 (Exists.intro vq4 (Exists.intro σq4 (And.intro (Nat.le_of_ble_eq_true rfl) (And.intro (ok_Law_holds_16 hq4) ?_))))
        rcases px_ite h with ⟨c5, h⟩ | ⟨c5, h⟩
        · refine And.intro (fun _ => ?_) (fun hn => absurd c5 hn)
          refine H [((5, 2, 0, 1, []), 3), ((12, 0, 2, 0, []), 3)] 57 _ _ _ (by decide +kernel) ?_
          exact ih _ _ _ h
        · refine And.intro (fun hp => absurd hp c5) (fun _ => ?_)
          obtain ⟨g6, h⟩ := px_gd h
          refine And.intro g6 ?_
          obtain ⟨g7, h⟩ := px_gd h
          refine And.intro g7 ?_
          obtain ⟨⟨vq8, σq8⟩, hq8, h⟩ := px_bind h
          dsimp only at h
          refine Exists.intro 1 (Exists.intro vq8 (Exists.intro σq8 (And.intro (Nat.le_of_ble_eq_true rfl) (And.intro (ok_Law_reckon_16 hq8) ?_))))
          exact Prod.mk.inj (Option.some.inj h)
      · refine And.intro (fun _ => ?_) (fun hn => absurd c3 hn)
        refine H [((5, 2, 0, 1, []), 3), ((12, 0, 2, 0, []), 3)] 57 _ _ _ (by decide +kernel) ?_
        exact ih _ _ _ h
theorem ok_Law_delay_16_w {l : Launch} {rv : Int} {rσ : pS} {G : Nat → pL → List pV → pS → Prop} (H : px_R l 3 87 rv rσ G) : ∀ (a1 : Int) (σ : pS), f_Law_delay_16 a1 σ = some (rv, rσ) → G 0 [some (.inr 16), some (.inl a1), none, none] [] σ := by
  intro a1 σ h
  unfold f_Law_delay_16 at h
  refine H [((0, 0, 0, 0, []), 1), ((3, 2, 0, 0, []), 1)] 0 _ _ _ (by decide +kernel) ?_
  exact ok_Law_delay_16_p2 H _ _ _ _ h
theorem ok_Law_delay_16 {l : Launch} {a1 : Int} {σ : pS} {v : Int} {σ1 : pS} (h : f_Law_delay_16 a1 σ = some (v, σ1)) : Con l 3 87 [.inr 16, .inl a1] σ v σ1 := Con_mk 2 4 rfl (by decide +kernel) (fun _ H => ok_Law_delay_16_w H _ _ h)
theorem ok_Mach_sendOff_3_p152 {l : Launch} {rv : Int} {rσ : pS} {G : Nat → pL → List pV → pS → Prop} (H : px_R l 4 81 rv rσ G) {k_5 : Int → Int → Int → Int → pS → Option (Int × pS)} (hk_5 : ∀ (a1 a2 a3 a4 : Int) (σ : pS), k_5 a1 a2 a3 a4 σ = some (rv, rσ) → G 5 [some (.inr 3), some (.inl a1), some (.inl a2), some (.inl a3), some (.inl a4)] [] σ) : ∀ (a1 a2 a3 a4 s0 s2 s3 : Int) (σ : pS), f_Mach_sendOff_3_p152 k_5 a1 a2 a3 a4 s0 s2 s3 σ = some (rv, rσ) → G 152 [some (.inr 3), some (.inl a1), some (.inl a2), some (.inl a3), some (.inl a4)] [.inl s0, .inr 16, .inl s2, .inl s3, .inr 40] σ := by
  intro a1 a2 a3 a4 s0 s2 s3 σ h
  unfold f_Mach_sendOff_3_p152 at h
  refine H [((23, 87, 1, 1, [(0, 16)]), 3), ((6, 0, 0, 0, []), 1), ((20, 40, 20, 0, []), 1), ((5, 4, 0, 1, []), 3), ((12, 0, 5, 0, []), 3)] 152 _ _ _ (by decide +kernel) ?_
  obtain ⟨⟨vq18, σq18⟩, hq18, h⟩ := px_bind h
  dsimp only at h
  refine Exists.intro 3 (Exists.intro vq18 (Exists.intro σq18 (And.intro (Nat.le_of_ble_eq_true rfl) (And.intro (ok_Law_delay_16 hq18) ?_))))
  obtain ⟨g19, h⟩ := px_gd h
  refine And.intro g19 ?_
  exact hk_5 _ _ _ _ _ h
theorem ok_Mach_sendOff_3_p5 {l : Launch} {rv : Int} {rσ : pS} {G : Nat → pL → List pV → pS → Prop} (H : px_R l 4 81 rv rσ G) : ∀ (n : Nat) (a1 a2 a3 a4 : Int) (σ : pS), f_Mach_sendOff_3_p5 n a1 a2 a3 a4 σ = some (rv, rσ) → G 5 [some (.inr 3), some (.inl a1), some (.inl a2), some (.inl a3), some (.inl a4)] [] σ := by
  intro n
  induction n with
  | zero =>
    intro a1 a2 a3 a4 σ h
    unfold f_Mach_sendOff_3_p5 at h
    cases h
  | succ n ih =>
    intro a1 a2 a3 a4 σ h
    unfold f_Mach_sendOff_3_p5 at h
    refine H [((1, 4, 0, 0, []), 2), ((2, 0, 0, 0, []), 1), ((17, 3, 4, 0, []), 3), ((16, 4, 11, 0, []), 3), ((13, 3, 163, 0, []), 3), ((2, 0, 0, 0, []), 1), ((17, 3, 39, 0, []), 3), ((1, 4, 0, 0, []), 2), ((19, 39, 20, 0, []), 1), ((14, 1, 157, 0, []), 3), ((2, 0, 0, 0, []), 1), ((2, 0, 0, 0, []), 1), ((17, 3, 4, 0, []), 3), ((17, 4, 12, 0, []), 3), ((1, 4, 0, 0, []), 2), ((19, 12, 20, 0, []), 1), ((23, 82, 1, 1, [(0, 3)]), 3), ((14, 0, 157, 0, []), 3), ((2, 0, 0, 0, []), 1), ((2, 0, 0, 0, []), 1), ((17, 3, 4, 0, []), 3), ((17, 4, 13, 0, []), 3), ((1, 4, 0, 0, []), 2), ((19, 13, 20, 0, []), 1), ((23, 82, 1, 1, [(0, 3)]), 3), ((14, 1, 64, 0, []), 3), ((12, 0, 157, 0, []), 3), ((5, 4, 0, 1, []), 3), ((12, 0, 5, 0, []), 3)] 5 _ _ _ (by decide +kernel) ?_
    rcases px_ite h with ⟨c1, h⟩ | ⟨c1, h⟩
    · refine And.intro (fun _ => ?_) (fun hn => absurd c1 hn)
      refine H [((28, 0, 0, 0, []), 1)] 163 _ _ _ (by decide +kernel) ?_
      exact (Prod.mk.inj (Option.some.inj h)).2
    · refine And.intro (fun hp => absurd hp c1) (fun _ => ?_)
      obtain ⟨g2, h⟩ := px_gd h
      refine And.intro g2 ?_
      rcases px_ite h with ⟨c3, h⟩ | ⟨c3, h⟩
      · refine And.intro (fun hp => absurd c3 hp) (fun _ => ?_)
        obtain ⟨g4, h⟩ := px_gd h
        refine And.intro g4 ?_
        obtain ⟨⟨vq5, σq5⟩, hq5, h⟩ := px_bind h
        dsimp only at h
        refine Exists.intro 0 (Exists.intro vq5 (Exists.intro σq5 (And.intro (Nat.le_of_ble_eq_true rfl) (And.intro (ok_Mach_isDone_3 hq5) ?_))))
        rcases px_ite h with ⟨c6, h⟩ | ⟨c6, h⟩
        · refine And.intro (fun _ => ?_) (fun hn => absurd c6 hn)
          refine H [((5, 4, 0, 1, []), 3), ((12, 0, 5, 0, []), 3)] 157 _ _ _ (by decide +kernel) ?_
          exact ih _ _ _ _ _ h
        · refine And.intro (fun hp => absurd hp c6) (fun _ => ?_)
          obtain ⟨g7, h⟩ := px_gd h
          refine And.intro g7 ?_
          obtain ⟨⟨vq8, σq8⟩, hq8, h⟩ := px_bind h
          dsimp only at h
          refine Exists.intro 0 (Exists.intro vq8 (Exists.intro σq8 (And.intro (Nat.le_of_ble_eq_true rfl) (And.intro (ok_Mach_isDone_3 hq8) ?_))))
          rcases px_ite h with ⟨c9, h⟩ | ⟨c9, h⟩
          · refine And.intro (fun hp => absurd c9 hp) (fun _ => ?_)
            exact ih _ _ _ _ _ h
          · refine And.intro (fun _ => ?_) (fun hn => absurd c9 hn)
            refine H [((2, 0, 0, 0, []), 1), ((1, 4, 0, 0, []), 2), ((1, 2, 0, 0, []), 1), ((23, 83, 2, 1, [(0, 3)]), 3), ((14, 0, 90, 0, []), 3), ((2, 0, 0, 0, []), 1), ((17, 3, 32, 0, []), 3), ((17, 32, 33, 0, []), 3), ((0, 0, 0, 5, []), 1), ((10, 0, 0, 0, []), 1), ((19, 33, 6, 0, []), 1), ((0, 0, 0, 1, []), 1), ((6, 0, 0, 0, []), 1), ((20, 33, 6, 0, []), 1), ((12, 0, 157, 0, []), 3), ((5, 4, 0, 1, []), 3), ((12, 0, 5, 0, []), 3)] 64 _ _ _ (by decide +kernel) ?_
            obtain ⟨⟨vq10, σq10⟩, hq10, h⟩ := px_bind h
            dsimp only at h
            refine Exists.intro 0 (Exists.intro vq10 (Exists.intro σq10 (And.intro (Nat.le_of_ble_eq_true rfl) (And.intro (ok_Mach_mustWait_3 hq10) ?_))))
            rcases px_ite h with ⟨c11, h⟩ | ⟨c11, h⟩
            · refine And.intro (fun _ => ?_) (fun hn => absurd c11 hn)
              refine H [((1, 3, 0, 0, []), 1), ((1, 1, 0, 0, []), 1), ((13, 3, 157, 0, []), 3), ((5, 3, 0, 1, []), 3), ((2, 0, 0, 0, []), 1), ((1, 4, 0, 0, []), 2), ((2, 0, 0, 0, []), 1), ((17, 3, 28, 0, []), 3), ((23, 84, 0, 1, [(0, 28)]), 3), ((23, 85, 2, 0, [(0, 3)]), 3), ((2, 0, 0, 0, []), 1), ((17, 3, 39, 0, []), 3), ((1, 4, 0, 0, []), 2), ((0, 0, 0, 1, []), 1), ((20, 39, 20, 0, []), 1), ((2, 0, 0, 0, []), 1), ((17, 3, 40, 0, []), 3), ((1, 4, 0, 0, []), 2), ((2, 0, 0, 0, []), 1), ((16, 3, 11, 0, []), 3), ((2, 0, 0, 0, []), 1), ((17, 3, 16, 0, []), 3), ((2, 0, 0, 0, []), 1), ((17, 3, 4, 0, []), 3), ((17, 4, 5, 0, []), 3), ((1, 4, 0, 0, []), 2), ((19, 5, 20, 0, []), 1), ((0, 0, 0, 2, []), 1), ((13, 1, 151, 0, []), 3), ((0, 0, 0, 2, []), 1), ((12, 0, 152, 0, []), 3)] 90 _ _ _ (by decide +kernel) ?_
              rcases px_ite h with ⟨c12, h⟩ | ⟨c12, h⟩
              · refine And.intro (fun _ => ?_) (fun hn => absurd c12 hn)
                refine H [((5, 4, 0, 1, []), 3), ((12, 0, 5, 0, []), 3)] 157 _ _ _ (by decide +kernel) ?_
                exact ih _ _ _ _ _ h
              · refine And.intro (fun hp => absurd hp c12) (fun _ => ?_)
                obtain ⟨⟨vq13, σq13⟩, hq13, h⟩ := px_bind h
                dsimp only at h
                refine Exists.intro 0 (Exists.intro vq13 (Exists.intro σq13 (And.intro (Nat.le_of_ble_eq_true rfl) (And.intro (ok_State_draw_28 hq13) ?_))))
                obtain ⟨⟨vq14, σq14⟩, hq14, h⟩ := px_bind h
                dsimp only at h
                refine Exists.intro 1 (Exists.intro vq14 (Exists.intro σq14 (And.intro (Nat.le_of_ble_eq_true rfl) (And.intro (ok_Mach_tellLaw_3 hq14) ?_))))
                obtain ⟨g15, h⟩ := px_gd h
                refine And.intro g15 ?_
                obtain ⟨g16, h⟩ := px_gd h
                refine And.intro g16 ?_
                rcases px_ite h with ⟨c17, h⟩ | ⟨c17, h⟩
                · refine And.intro (fun hp => absurd c17 hp) (fun _ => ?_)
                  exact ok_Mach_sendOff_3_p152 H ih _ _ _ _ _ _ _ _ h
                · refine And.intro (fun _ => ?_) (fun hn => absurd c17 hn)
                  refine H [((0, 0, 0, 1, []), 1)] 151 _ _ _ (by decide +kernel) ?_
                  exact ok_Mach_sendOff_3_p152 H ih _ _ _ _ _ _ _ _ h
            · refine And.intro (fun hp => absurd hp c11) (fun _ => ?_)
              refine And.intro (show (0 : Int) ≤ 5 ∧ (5 : Int) < 6 from by decide) ?_
              refine And.intro (show (0 : Int) ≤ 5 ∧ (5 : Int) < 6 from by decide) ?_
              exact ih _ _ _ _ _ h
      · refine And.intro (fun _ => ?_) (fun hn => absurd c3 hn)
        refine H [((5, 4, 0, 1, []), 3), ((12, 0, 5, 0, []), 3)] 157 _ _ _ (by decide +kernel) ?_
        exact ih _ _ _ _ _ h
theorem ok_Mach_sendOff_3_w {l : Launch} {rv : Int} {rσ : pS} {G : Nat → pL → List pV → pS → Prop} (H : px_R l 4 81 rv rσ G) : ∀ (a1 a2 : Int) (σ : pS), f_Mach_sendOff_3 a1 a2 σ = some (rv, rσ) → G 0 [some (.inr 3), some (.inl a1), some (.inl a2), none, none] [] σ := by
  intro a1 a2 σ h
  unfold f_Mach_sendOff_3 at h
  refine H [((0, 0, 0, 0, []), 1), ((3, 3, 0, 0, []), 1), ((0, 0, 0, 0, []), 1), ((3, 4, 0, 0, []), 2)] 0 _ _ _ (by decide +kernel) ?_
  exact ok_Mach_sendOff_3_p5 H _ _ _ _ _ _ h
theorem ok_Mach_sendOff_3 {l : Launch} {a1 a2 : Int} {σ : pS} {v : Int} {σ1 : pS} (h : f_Mach_sendOff_3 a1 a2 σ = some (v, σ1)) : Con l 4 81 [.inr 3, .inl a1, .inl a2] σ v σ1 := Con_mk 3 5 rfl (by decide +kernel) (fun _ H => ok_Mach_sendOff_3_w H _ _ _ h)
theorem ok_Mach_oldestToRetire_3_p2 {l : Launch} {rv : Int} {rσ : pS} {G : Nat → pL → List pV → pS → Prop} (H : px_R l 0 92 rv rσ G) : ∀ (n : Nat) (a1 : Int) (σ : pS), f_Mach_oldestToRetire_3_p2 n a1 σ = some (rv, rσ) → G 2 [some (.inr 3), some (.inl a1)] [] σ := by
  intro n
  induction n with
  | zero =>
    intro a1 σ h
    unfold f_Mach_oldestToRetire_3_p2 at h
    cases h
  | succ n ih =>
    intro a1 σ h
    unfold f_Mach_oldestToRetire_3_p2 at h
    refine H [((1, 1, 0, 0, []), 1), ((2, 0, 0, 0, []), 1), ((17, 3, 4, 0, []), 3), ((16, 4, 11, 0, []), 3), ((13, 3, 53, 0, []), 3), ((2, 0, 0, 0, []), 1), ((17, 3, 4, 0, []), 3), ((17, 4, 5, 0, []), 3), ((1, 1, 0, 0, []), 1), ((19, 5, 20, 0, []), 1), ((0, 0, 0, 3, []), 1), ((13, 1, 47, 0, []), 3), ((2, 0, 0, 0, []), 1), ((17, 3, 39, 0, []), 3), ((1, 1, 0, 0, []), 1), ((19, 39, 20, 0, []), 1), ((0, 0, 0, 2, []), 1), ((13, 1, 47, 0, []), 3), ((2, 0, 0, 0, []), 1), ((17, 3, 41, 0, []), 3), ((1, 1, 0, 0, []), 1), ((19, 41, 20, 0, []), 1), ((14, 1, 47, 0, []), 3), ((1, 1, 0, 0, []), 1), ((27, 0, 0, 0, []), 1)] 2 _ _ _ (by decide +kernel) ?_
    rcases px_ite h with ⟨c1, h⟩ | ⟨c1, h⟩
    · refine And.intro (fun _ => ?_) (fun hn => absurd c1 hn)
      refine H [((0, 0, 0, (-1), []), 1), ((27, 0, 0, 0, []), 1)] 53 _ _ _ (by decide +kernel) ?_
      exact Prod.mk.inj (Option.some.inj h)
    · refine And.intro (fun hp => absurd hp c1) (fun _ => ?_)
      obtain ⟨g2, h⟩ := px_gd h
      refine And.intro g2 ?_
      rcases px_ite h with ⟨c3, h⟩ | ⟨c3, h⟩
      · refine And.intro (fun hp => absurd c3 hp) (fun _ => ?_)
        obtain ⟨g4, h⟩ := px_gd h
        refine And.intro g4 ?_
        rcases px_ite h with ⟨c5, h⟩ | ⟨c5, h⟩
        · refine And.intro (fun hp => absurd c5 hp) (fun _ => ?_)
          obtain ⟨g6, h⟩ := px_gd h
          refine And.intro g6 ?_
          rcases px_ite h with ⟨c7, h⟩ | ⟨c7, h⟩
          · refine And.intro (fun hp => absurd c7 hp) (fun _ => ?_)
            exact Prod.mk.inj (Option.some.inj h)
          · refine And.intro (fun _ => ?_) (fun hn => absurd c7 hn)
            refine H [((5, 1, 0, 1, []), 3), ((12, 0, 2, 0, []), 3)] 47 _ _ _ (by decide +kernel) ?_
            exact ih _ _ h
        · refine And.intro (fun _ => ?_) (fun hn => absurd c5 hn)
          refine H [((5, 1, 0, 1, []), 3), ((12, 0, 2, 0, []), 3)] 47 _ _ _ (by decide +kernel) ?_
          exact ih _ _ h
      · refine And.intro (fun _ => ?_) (fun hn => absurd c3 hn)
        refine H [((5, 1, 0, 1, []), 3), ((12, 0, 2, 0, []), 3)] 47 _ _ _ (by decide +kernel) ?_
        exact ih _ _ h
theorem ok_Mach_oldestToRetire_3_w {l : Launch} {rv : Int} {rσ : pS} {G : Nat → pL → List pV → pS → Prop} (H : px_R l 0 92 rv rσ G) : ∀ (σ : pS), f_Mach_oldestToRetire_3  σ = some (rv, rσ) → G 0 [some (.inr 3), none] [] σ := by
  intro  σ h
  unfold f_Mach_oldestToRetire_3 at h
  refine H [((0, 0, 0, 0, []), 1), ((3, 1, 0, 0, []), 1)] 0 _ _ _ (by decide +kernel) ?_
  exact ok_Mach_oldestToRetire_3_p2 H _ _ _ h
theorem ok_Mach_oldestToRetire_3 {l : Launch} {σ : pS} {v : Int} {σ1 : pS} (h : f_Mach_oldestToRetire_3  σ = some (v, σ1)) : Con l 0 92 [.inr 3] σ v σ1 := Con_mk 1 2 rfl (by decide +kernel) (fun _ H => ok_Mach_oldestToRetire_3_w H  _ h)
theorem ok_Mach_doneAhead_3_p2 {l : Launch} {rv : Int} {rσ : pS} {G : Nat → pL → List pV → pS → Prop} (H : px_R l 0 93 rv rσ G) : ∀ (n : Nat) (a1 a2 : Int) (σ : pS), f_Mach_doneAhead_3_p2 n a1 a2 σ = some (rv, rσ) → G 2 [some (.inr 3), some (.inl a1), some (.inl a2)] [] σ := by
  intro n
  induction n with
  | zero =>
    intro a1 a2 σ h
    unfold f_Mach_doneAhead_3_p2 at h
    cases h
  | succ n ih =>
    intro a1 a2 σ h
    unfold f_Mach_doneAhead_3_p2 at h
    refine H [((1, 2, 0, 0, []), 1), ((1, 1, 0, 0, []), 1), ((13, 3, 25, 0, []), 3), ((2, 0, 0, 0, []), 1), ((17, 3, 39, 0, []), 3), ((1, 2, 0, 0, []), 1), ((19, 39, 20, 0, []), 1), ((0, 0, 0, 2, []), 1), ((13, 0, 19, 0, []), 3), ((0, 0, 0, 0, []), 1), ((27, 1, 0, 0, []), 1)] 2 _ _ _ (by decide +kernel) ?_
    rcases px_ite h with ⟨c1, h⟩ | ⟨c1, h⟩
    · refine And.intro (fun _ => ?_) (fun hn => absurd c1 hn)
      refine H [((0, 0, 0, 1, []), 1), ((27, 1, 0, 0, []), 1)] 25 _ _ _ (by decide +kernel) ?_
      refine And.intro (show (0 : Int) ≤ 1 ∧ (1 : Int) ≤ 1 from by decide) ?_
      exact Prod.mk.inj (Option.some.inj h)
    · refine And.intro (fun hp => absurd hp c1) (fun _ => ?_)
      obtain ⟨g2, h⟩ := px_gd h
      refine And.intro g2 ?_
      rcases px_ite h with ⟨c3, h⟩ | ⟨c3, h⟩
      · refine And.intro (fun _ => ?_) (fun hn => absurd c3 hn)
        refine H [((5, 2, 0, 1, []), 3), ((12, 0, 2, 0, []), 3)] 19 _ _ _ (by decide +kernel) ?_
        exact ih _ _ _ h
      · refine And.intro (fun hp => absurd hp c3) (fun _ => ?_)
        refine And.intro (show (0 : Int) ≤ 0 ∧ (0 : Int) ≤ 1 from by decide) ?_
        exact Prod.mk.inj (Option.some.inj h)
theorem ok_Mach_doneAhead_3_w {l : Launch} {rv : Int} {rσ : pS} {G : Nat → pL → List pV → pS → Prop} (H : px_R l 0 93 rv rσ G) : ∀ (a1 : Int) (σ : pS), f_Mach_doneAhead_3 a1 σ = some (rv, rσ) → G 0 [some (.inr 3), some (.inl a1), none] [] σ := by
  intro a1 σ h
  unfold f_Mach_doneAhead_3 at h
  refine H [((0, 0, 0, 0, []), 1), ((3, 2, 0, 0, []), 1)] 0 _ _ _ (by decide +kernel) ?_
  exact ok_Mach_doneAhead_3_p2 H _ _ _ _ h
theorem ok_Mach_doneAhead_3 {l : Launch} {a1 : Int} {σ : pS} {v : Int} {σ1 : pS} (h : f_Mach_doneAhead_3 a1 σ = some (v, σ1)) : Con l 0 93 [.inr 3, .inl a1] σ v σ1 := Con_mk 2 3 rfl (by decide +kernel) (fun _ H => ok_Mach_doneAhead_3_w H _ _ h)
theorem ok_State_putBytes_28_p3 {l : Launch} {rv : Int} {rσ : pS} {G : Nat → pL → List pV → pS → Prop} (H : px_R l 0 95 rv rσ G) : ∀ (n : Nat) (a1 a2 a3 a4 : Int) (σ : pS), f_State_putBytes_28_p3 n a1 a2 a3 a4 σ = some (rv, rσ) → G 3 [some (.inr 28), some (.inl a1), some (.inl a2), some (.inl a3), some (.inl a4)] [] σ := by
  intro n
  induction n with
  | zero =>
    intro a1 a2 a3 a4 σ h
    unfold f_State_putBytes_28_p3 at h
    cases h
  | succ n ih =>
    intro a1 a2 a3 a4 σ h
    unfold f_State_putBytes_28_p3 at h
    refine H [((1, 4, 0, 0, []), 2), ((1, 2, 0, 0, []), 1), ((13, 3, 38, 0, []), 3), ((2, 0, 0, 0, []), 1), ((17, 28, 30, 0, []), 3), ((1, 1, 0, 0, []), 1), ((1, 4, 0, 0, []), 2), ((6, 0, 0, 0, []), 1), ((0, 0, 0, 63, []), 2), ((6, 3, 0, 0, []), 1), ((1, 3, 0, 0, []), 1), ((0, 0, 0, 8, []), 2), ((1, 4, 0, 0, []), 2), ((6, 2, 0, 0, []), 1), ((6, 8, 0, 0, []), 1), ((0, 0, 0, 255, []), 3), ((6, 3, 0, 0, []), 1), ((20, 30, 64, 0, []), 1), ((5, 4, 0, 1, []), 3), ((12, 0, 3, 0, []), 3)] 3 _ _ _ (by decide +kernel) ?_
    rcases px_ite h with ⟨c1, h⟩ | ⟨c1, h⟩
    · refine And.intro (fun _ => ?_) (fun hn => absurd c1 hn)
      refine H [((28, 0, 0, 0, []), 1)] 38 _ _ _ (by decide +kernel) ?_
      exact (Prod.mk.inj (Option.some.inj h)).2
    · refine And.intro (fun hp => absurd hp c1) (fun _ => ?_)
      obtain ⟨g2, h⟩ := px_gd h
      refine And.intro g2 ?_
      exact ih _ _ _ _ _ h
theorem ok_State_putBytes_28_w {l : Launch} {rv : Int} {rσ : pS} {G : Nat → pL → List pV → pS → Prop} (H : px_R l 0 95 rv rσ G) : ∀ (a1 a2 a3 : Int) (σ : pS), f_State_putBytes_28 a1 a2 a3 σ = some (rv, rσ) → G 0 [some (.inr 28), some (.inl a1), some (.inl a2), some (.inl a3), none] [] σ := by
  intro a1 a2 a3 σ h
  unfold f_State_putBytes_28 at h
  refine H [((0, 0, 0, 0, []), 1), ((3, 4, 0, 0, []), 2)] 0 _ _ _ (by decide +kernel) ?_
  exact ok_State_putBytes_28_p3 H _ _ _ _ _ _ h
theorem ok_State_putBytes_28 {l : Launch} {a1 a2 a3 : Int} {σ : pS} {v : Int} {σ1 : pS} (h : f_State_putBytes_28 a1 a2 a3 σ = some (v, σ1)) : Con l 0 95 [.inr 28, .inl a1, .inl a2, .inl a3] σ v σ1 := Con_mk 4 5 rfl (by decide +kernel) (fun _ H => ok_State_putBytes_28_w H _ _ _ _ h)
theorem ok_Law_holdsBack_16_p2 {l : Launch} {rv : Int} {rσ : pS} {G : Nat → pL → List pV → pS → Prop} (H : px_R l 3 94 rv rσ G) : ∀ (n : Nat) (a1 : Int) (σ : pS), f_Law_holdsBack_16_p2 n a1 σ = some (rv, rσ) → G 2 [some (.inr 16), some (.inl a1)] [] σ := by
  intro n
  induction n with
  | zero =>
    intro a1 σ h
    unfold f_Law_holdsBack_16_p2 at h
    cases h
  | succ n ih =>
    intro a1 σ h
    unfold f_Law_holdsBack_16_p2 at h
    refine H [((1, 1, 0, 0, []), 1), ((2, 0, 0, 0, []), 1), ((16, 16, 7, 0, []), 3), ((13, 3, 37, 0, []), 3), ((2, 0, 0, 0, []), 1), ((17, 16, 17, 0, []), 3), ((1, 1, 0, 0, []), 1), ((19, 17, 16, 0, []), 1), ((0, 0, 0, 120, []), 2), ((13, 1, 31, 0, []), 3), ((2, 0, 0, 0, []), 1), ((1, 1, 0, 0, []), 1), ((23, 88, 1, 1, [(0, 16)]), 3), ((14, 0, 31, 0, []), 3), ((0, 0, 0, 1, []), 1), ((27, 1, 0, 0, []), 1)] 2 _ _ _ (by decide +kernel) ?_
    rcases px_ite h with ⟨c1, h⟩ | ⟨c1, h⟩
    · refine And.intro (fun _ => ?_) (fun hn => absurd c1 hn)
      refine H [((0, 0, 0, 0, []), 1), ((27, 1, 0, 0, []), 1)] 37 _ _ _ (by decide +kernel) ?_
      refine And.intro (show (0 : Int) ≤ 0 ∧ (0 : Int) ≤ 1 from by decide) ?_
      exact Prod.mk.inj (Option.some.inj h)
    · refine And.intro (fun hp => absurd hp c1) (fun _ => ?_)
      obtain ⟨g2, h⟩ := px_gd h
      refine And.intro g2 ?_
      rcases px_ite h with ⟨c3, h⟩ | ⟨c3, h⟩
      · refine And.intro (fun hp => absurd c3 hp) (fun _ => ?_)
        obtain ⟨⟨vq4, σq4⟩, hq4, h⟩ := px_bind h
        dsimp only at h
        refine Exists.intro 2 (Exists.intro vq4 (Exists.intro σq4 (And.intro (Nat.le_of_ble_eq_true rfl) (And.intro (ok_Law_holds_16 hq4) ?_))))
        rcases px_ite h with ⟨c5, h⟩ | ⟨c5, h⟩
        · refine And.intro (fun _ => ?_) (fun hn => absurd c5 hn)
          refine H [((5, 1, 0, 1, []), 3), ((12, 0, 2, 0, []), 3)] 31 _ _ _ (by decide +kernel) ?_
          exact ih _ _ h
        · refine And.intro (fun hp => absurd hp c5) (fun _ => ?_)
          refine And.intro (show (0 : Int) ≤ 1 ∧ (1 : Int) ≤ 1 from by decide) ?_
          exact Prod.mk.inj (Option.some.inj h)
      · refine And.intro (fun _ => ?_) (fun hn => absurd c3 hn)
        refine H [((5, 1, 0, 1, []), 3), ((12, 0, 2, 0, []), 3)] 31 _ _ _ (by decide +kernel) ?_
        exact ih _ _ h
theorem ok_Law_holdsBack_16_w {l : Launch} {rv : Int} {rσ : pS} {G : Nat → pL → List pV → pS → Prop} (H : px_R l 3 94 rv rσ G) : ∀ (σ : pS), f_Law_holdsBack_16  σ = some (rv, rσ) → G 0 [some (.inr 16), none] [] σ := by
  intro  σ h
  unfold f_Law_holdsBack_16 at h
  refine H [((0, 0, 0, 0, []), 1), ((3, 1, 0, 0, []), 1)] 0 _ _ _ (by decide +kernel) ?_
  exact ok_Law_holdsBack_16_p2 H _ _ _ h
theorem ok_Law_holdsBack_16 {l : Launch} {σ : pS} {v : Int} {σ1 : pS} (h : f_Law_holdsBack_16  σ = some (v, σ1)) : Con l 3 94 [.inr 16] σ v σ1 := Con_mk 1 2 rfl (by decide +kernel) (fun _ H => ok_Law_holdsBack_16_w H  _ h)
theorem ok_Mach_retireOne_3_p68 {l : Launch} {rv : Int} {rσ : pS} {G : Nat → pL → List pV → pS → Prop} (H : px_R l 4 91 rv rσ G) : ∀ (n : Nat) (a1 a3 : Int) (σ : pS), f_Mach_retireOne_3_p68 n a1 a3 σ = some (rv, rσ) → G 68 [some (.inr 3), some (.inl a1), none, some (.inl a3), none] [] σ := by
  intro n
  induction n with
  | zero =>
    intro a1 a3 σ h
    unfold f_Mach_retireOne_3_p68 at h
    cases h
  | succ n ih =>
    intro a1 a3 σ h
    unfold f_Mach_retireOne_3_p68 at h
    refine H [((1, 3, 0, 0, []), 1), ((2, 0, 0, 0, []), 1), ((17, 3, 4, 0, []), 3), ((17, 4, 7, 0, []), 3), ((1, 1, 0, 0, []), 1), ((19, 7, 20, 0, []), 1), ((13, 3, 123, 0, []), 3), ((2, 0, 0, 0, []), 1), ((17, 3, 32, 0, []), 3), ((17, 32, 37, 0, []), 3), ((1, 1, 0, 0, []), 1), ((19, 37, 20, 0, []), 1), ((1, 3, 0, 0, []), 1), ((6, 0, 0, 0, []), 1), ((0, 0, 0, 63, []), 2), ((6, 3, 0, 0, []), 1), ((3, 4, 0, 0, []), 2), ((2, 0, 0, 0, []), 1), ((17, 3, 42, 0, []), 3), ((1, 1, 0, 0, []), 1), ((0, 0, 0, 4, []), 1), ((6, 2, 0, 0, []), 1), ((1, 3, 0, 0, []), 1), ((6, 0, 0, 0, []), 1), ((2, 0, 0, 0, []), 1), ((17, 3, 28, 0, []), 3), ((17, 28, 30, 0, []), 3), ((1, 4, 0, 0, []), 2), ((19, 30, 64, 0, []), 1), ((20, 42, 80, 0, []), 1), ((5, 3, 0, 1, []), 3), ((12, 0, 68, 0, []), 3), ((29, 4, 0, 0, []), 0)] 68 _ _ _ (by decide +kernel) ?_
    obtain ⟨g7, h⟩ := px_gd h
    refine And.intro g7 ?_
    rcases px_ite h with ⟨c8, h⟩ | ⟨c8, h⟩
    · refine And.intro (fun _ => ?_) (fun hn => absurd c8 hn)
      refine H [((2, 0, 0, 0, []), 1), ((17, 3, 28, 0, []), 3), ((2, 0, 0, 0, []), 1), ((17, 3, 32, 0, []), 3), ((17, 32, 37, 0, []), 3), ((1, 1, 0, 0, []), 1), ((19, 37, 20, 0, []), 1), ((2, 0, 0, 0, []), 1), ((17, 3, 4, 0, []), 3), ((17, 4, 7, 0, []), 3), ((1, 1, 0, 0, []), 1), ((19, 7, 20, 0, []), 1), ((2, 0, 0, 0, []), 1), ((17, 3, 32, 0, []), 3), ((17, 32, 36, 0, []), 3), ((1, 1, 0, 0, []), 1), ((19, 36, 20, 0, []), 1), ((23, 95, 3, 0, [(0, 28)]), 3), ((2, 0, 0, 0, []), 1), ((17, 3, 41, 0, []), 3), ((1, 1, 0, 0, []), 1), ((0, 0, 0, 1, []), 1), ((20, 41, 20, 1, []), 1), ((28, 0, 0, 0, []), 1)] 123 _ _ _ (by decide +kernel) ?_
      obtain ⟨g9, h⟩ := px_gd h
      refine And.intro g9 ?_
      obtain ⟨g10, h⟩ := px_gd h
      refine And.intro g10 ?_
      obtain ⟨g11, h⟩ := px_gd h
      refine And.intro g11 ?_
      obtain ⟨⟨vq12, σq12⟩, hq12, h⟩ := px_bind h
      dsimp only at h
      refine Exists.intro 0 (Exists.intro vq12 (Exists.intro σq12 (And.intro (Nat.le_of_ble_eq_true rfl) (And.intro (ok_State_putBytes_28 hq12) ?_))))
      obtain ⟨g13, h⟩ := px_gd h
      refine And.intro g13 ?_
      refine And.intro (show (0 : Int) ≤ 1 ∧ (1 : Int) ≤ 1 from by decide) ?_
      exact (Prod.mk.inj (Option.some.inj h)).2
    · refine And.intro (fun hp => absurd hp c8) (fun _ => ?_)
      obtain ⟨g14, h⟩ := px_gd h
      refine And.intro g14 ?_
      obtain ⟨g15, h⟩ := px_gd h
      refine And.intro g15 ?_
      obtain ⟨g16, h⟩ := px_gd h
      refine And.intro g16 ?_
      exact ih _ _ _ h
theorem ok_Mach_retireOne_3_p59 {l : Launch} {rv : Int} {rσ : pS} {G : Nat → pL → List pV → pS → Prop} (H : px_R l 4 91 rv rσ G) : ∀ (a1 : Int) (σ : pS), f_Mach_retireOne_3_p59 a1 σ = some (rv, rσ) → G 59 [some (.inr 3), some (.inl a1), none, none, none] [] σ := by
  intro a1 σ h
  unfold f_Mach_retireOne_3_p59 at h
  refine H [((2, 0, 0, 0, []), 1), ((1, 1, 0, 0, []), 1), ((0, 0, 0, 1, []), 1), ((6, 0, 0, 0, []), 1), ((23, 78, 1, 0, [(0, 3)]), 3), ((0, 0, 0, 0, []), 1), ((3, 3, 0, 0, []), 1)] 59 _ _ _ (by decide +kernel) ?_
  obtain ⟨⟨vq6, σq6⟩, hq6, h⟩ := px_bind h
  dsimp only at h
  refine Exists.intro 0 (Exists.intro vq6 (Exists.intro σq6 (And.intro (Nat.le_of_ble_eq_true rfl) (And.intro (ok_Mach_undoDownTo_3 hq6) ?_))))
  exact ok_Mach_retireOne_3_p68 H _ _ _ _ h
theorem ok_Mach_retireOne_3_p24 {l : Launch} {rv : Int} {rσ : pS} {G : Nat → pL → List pV → pS → Prop} (H : px_R l 4 91 rv rσ G) : ∀ (a1 s0 : Int) (σ : pS), f_Mach_retireOne_3_p24 a1 s0 σ = some (rv, rσ) → G 24 [some (.inr 3), some (.inl a1), none, none, none] [.inl s0] σ := by
  intro a1 s0 σ h
  unfold f_Mach_retireOne_3_p24 at h
  refine H [((3, 2, 0, 0, []), 1), ((1, 2, 0, 0, []), 1), ((14, 0, 59, 0, []), 3), ((2, 0, 0, 0, []), 1), ((1, 1, 0, 0, []), 1), ((0, 0, 0, 0, []), 1), ((23, 85, 2, 0, [(0, 3)]), 3), ((2, 0, 0, 0, []), 1), ((17, 3, 16, 0, []), 3), ((23, 94, 0, 1, [(0, 16)]), 3), ((14, 0, 46, 0, []), 3), ((28, 0, 0, 0, []), 1)] 24 _ _ _ (by decide +kernel) ?_
  rcases px_ite h with ⟨c5, h⟩ | ⟨c5, h⟩
  · refine And.intro (fun _ => ?_) (fun hn => absurd c5 hn)
    refine H [((29, 2, 0, 0, []), 0)] 59 _ _ _ (by decide +kernel) ?_
    exact ok_Mach_retireOne_3_p59 H _ _ h
  · refine And.intro (fun hp => absurd hp c5) (fun _ => ?_)
    obtain ⟨⟨vq17, σq17⟩, hq17, h⟩ := px_bind h
    dsimp only at h
    refine Exists.intro 1 (Exists.intro vq17 (Exists.intro σq17 (And.intro (Nat.le_of_ble_eq_true rfl) (And.intro (ok_Mach_tellLaw_3 hq17) ?_))))
    obtain ⟨⟨vq18, σq18⟩, hq18, h⟩ := px_bind h
    dsimp only at h
    refine Exists.intro 3 (Exists.intro vq18 (Exists.intro σq18 (And.intro (Nat.le_of_ble_eq_true rfl) (And.intro (ok_Law_holdsBack_16 hq18) ?_))))
    rcases px_ite h with ⟨c19, h⟩ | ⟨c19, h⟩
    · refine And.intro (fun _ => ?_) (fun hn => absurd c19 hn)
      refine H [((2, 0, 0, 0, []), 1), ((17, 3, 32, 0, []), 3), ((17, 32, 33, 0, []), 3), ((0, 0, 0, 3, []), 1), ((10, 0, 0, 0, []), 1), ((19, 33, 6, 0, []), 1), ((0, 0, 0, 1, []), 1), ((6, 0, 0, 0, []), 1), ((20, 33, 6, 0, []), 1), ((29, 2, 0, 0, []), 0)] 46 _ _ _ (by decide +kernel) ?_
      refine And.intro (show (0 : Int) ≤ 3 ∧ (3 : Int) < 6 from by decide) ?_
      refine And.intro (show (0 : Int) ≤ 3 ∧ (3 : Int) < 6 from by decide) ?_
      exact ok_Mach_retireOne_3_p59 H _ _ h
    · refine And.intro (fun hp => absurd hp c19) (fun _ => ?_)
      exact (Prod.mk.inj (Option.some.inj h)).2
theorem ok_Mach_retireOne_3_w {l : Launch} {rv : Int} {rσ : pS} {G : Nat → pL → List pV → pS → Prop} (H : px_R l 4 91 rv rσ G) : ∀ (σ : pS), f_Mach_retireOne_3  σ = some (rv, rσ) → G 0 [some (.inr 3), none, none, none, none] [] σ := by
  intro  σ h
  unfold f_Mach_retireOne_3 at h
  refine H [((2, 0, 0, 0, []), 1), ((23, 92, 0, 1, [(0, 3)]), 3), ((3, 1, 0, 0, []), 1), ((1, 1, 0, 0, []), 1), ((0, 0, 0, (-1), []), 1), ((13, 1, 11, 0, []), 3), ((28, 0, 0, 0, []), 1)] 0 _ _ _ (by decide +kernel) ?_
  obtain ⟨⟨vq1, σq1⟩, hq1, h⟩ := px_bind h
  dsimp only at h
  refine Exists.intro 0 (Exists.intro vq1 (Exists.intro σq1 (And.intro (Nat.le_of_ble_eq_true rfl) (And.intro (ok_Mach_oldestToRetire_3 hq1) ?_))))
  rcases px_ite h with ⟨c2, h⟩ | ⟨c2, h⟩
  · refine And.intro (fun hp => absurd c2 hp) (fun _ => ?_)
    exact (Prod.mk.inj (Option.some.inj h)).2
  · refine And.intro (fun _ => ?_) (fun hn => absurd c2 hn)
    refine H [((2, 0, 0, 0, []), 1), ((1, 1, 0, 0, []), 1), ((23, 93, 1, 1, [(0, 3)]), 3), ((14, 1, 23, 0, []), 3), ((0, 0, 0, 1, []), 1), ((12, 0, 24, 0, []), 3)] 11 _ _ _ (by decide +kernel) ?_
    obtain ⟨⟨vq3, σq3⟩, hq3, h⟩ := px_bind h
    dsimp only at h
    refine Exists.intro 0 (Exists.intro vq3 (Exists.intro σq3 (And.intro (Nat.le_of_ble_eq_true rfl) (And.intro (ok_Mach_doneAhead_3 hq3) ?_))))
    rcases px_ite h with ⟨c4, h⟩ | ⟨c4, h⟩
    · refine And.intro (fun hp => absurd c4 hp) (fun _ => ?_)
      exact ok_Mach_retireOne_3_p24 H _ _ _ h
    · refine And.intro (fun _ => ?_) (fun hn => absurd c4 hn)
      refine H [((0, 0, 0, 0, []), 1)] 23 _ _ _ (by decide +kernel) ?_
      exact ok_Mach_retireOne_3_p24 H _ _ _ h
theorem ok_Mach_retireOne_3 {l : Launch} {σ : pS} {v : Int} {σ1 : pS} (h : f_Mach_retireOne_3  σ = some (v, σ1)) : Con l 4 91 [.inr 3] σ v σ1 := Con_mk 1 5 rfl (by decide +kernel) (fun _ H => ok_Mach_retireOne_3_w H  _ h)
theorem ok_Mach_settled_3_p2 {l : Launch} {rv : Int} {rσ : pS} {G : Nat → pL → List pV → pS → Prop} (H : px_R l 0 96 rv rσ G) : ∀ (n : Nat) (a1 : Int) (σ : pS), f_Mach_settled_3_p2 n a1 σ = some (rv, rσ) → G 2 [some (.inr 3), some (.inl a1)] [] σ := by
  intro n
  induction n with
  | zero =>
    intro a1 σ h
    unfold f_Mach_settled_3_p2 at h
    cases h
  | succ n ih =>
    intro a1 σ h
    unfold f_Mach_settled_3_p2 at h
    refine H [((1, 1, 0, 0, []), 1), ((2, 0, 0, 0, []), 1), ((17, 3, 4, 0, []), 3), ((16, 4, 11, 0, []), 3), ((13, 3, 53, 0, []), 3), ((2, 0, 0, 0, []), 1), ((17, 3, 39, 0, []), 3), ((1, 1, 0, 0, []), 1), ((19, 39, 20, 0, []), 1), ((0, 0, 0, 2, []), 1), ((13, 1, 45, 0, []), 3), ((2, 0, 0, 0, []), 1), ((17, 3, 4, 0, []), 3), ((17, 4, 5, 0, []), 3), ((1, 1, 0, 0, []), 1), ((19, 5, 20, 0, []), 1), ((0, 0, 0, 3, []), 1), ((13, 1, 47, 0, []), 3), ((2, 0, 0, 0, []), 1), ((17, 3, 41, 0, []), 3), ((1, 1, 0, 0, []), 1), ((19, 41, 20, 0, []), 1), ((14, 1, 47, 0, []), 3), ((0, 0, 0, 0, []), 1), ((27, 1, 0, 0, []), 1)] 2 _ _ _ (by decide +kernel) ?_
    rcases px_ite h with ⟨c1, h⟩ | ⟨c1, h⟩
    · refine And.intro (fun _ => ?_) (fun hn => absurd c1 hn)
      refine H [((0, 0, 0, 1, []), 1), ((27, 1, 0, 0, []), 1)] 53 _ _ _ (by decide +kernel) ?_
      refine And.intro (show (0 : Int) ≤ 1 ∧ (1 : Int) ≤ 1 from by decide) ?_
      exact Prod.mk.inj (Option.some.inj h)
    · refine And.intro (fun hp => absurd hp c1) (fun _ => ?_)
      obtain ⟨g2, h⟩ := px_gd h
      refine And.intro g2 ?_
      rcases px_ite h with ⟨c3, h⟩ | ⟨c3, h⟩
      · refine And.intro (fun hp => absurd c3 hp) (fun _ => ?_)
        obtain ⟨g4, h⟩ := px_gd h
        refine And.intro g4 ?_
        rcases px_ite h with ⟨c5, h⟩ | ⟨c5, h⟩
        · refine And.intro (fun hp => absurd c5 hp) (fun _ => ?_)
          obtain ⟨g6, h⟩ := px_gd h
          refine And.intro g6 ?_
          rcases px_ite h with ⟨c7, h⟩ | ⟨c7, h⟩
          · refine And.intro (fun hp => absurd c7 hp) (fun _ => ?_)
            refine And.intro (show (0 : Int) ≤ 0 ∧ (0 : Int) ≤ 1 from by decide) ?_
            exact Prod.mk.inj (Option.some.inj h)
          · refine And.intro (fun _ => ?_) (fun hn => absurd c7 hn)
            refine H [((5, 1, 0, 1, []), 3), ((12, 0, 2, 0, []), 3)] 47 _ _ _ (by decide +kernel) ?_
            exact ih _ _ h
        · refine And.intro (fun _ => ?_) (fun hn => absurd c5 hn)
          refine H [((5, 1, 0, 1, []), 3), ((12, 0, 2, 0, []), 3)] 47 _ _ _ (by decide +kernel) ?_
          exact ih _ _ h
      · refine And.intro (fun _ => ?_) (fun hn => absurd c3 hn)
        refine H [((0, 0, 0, 0, []), 1), ((27, 1, 0, 0, []), 1)] 45 _ _ _ (by decide +kernel) ?_
        refine And.intro (show (0 : Int) ≤ 0 ∧ (0 : Int) ≤ 1 from by decide) ?_
        exact Prod.mk.inj (Option.some.inj h)
theorem ok_Mach_settled_3_w {l : Launch} {rv : Int} {rσ : pS} {G : Nat → pL → List pV → pS → Prop} (H : px_R l 0 96 rv rσ G) : ∀ (σ : pS), f_Mach_settled_3  σ = some (rv, rσ) → G 0 [some (.inr 3), none] [] σ := by
  intro  σ h
  unfold f_Mach_settled_3 at h
  refine H [((0, 0, 0, 0, []), 1), ((3, 1, 0, 0, []), 1)] 0 _ _ _ (by decide +kernel) ?_
  exact ok_Mach_settled_3_p2 H _ _ _ h
theorem ok_Mach_settled_3 {l : Launch} {σ : pS} {v : Int} {σ1 : pS} (h : f_Mach_settled_3  σ = some (v, σ1)) : Con l 0 96 [.inr 3] σ v σ1 := Con_mk 1 2 rfl (by decide +kernel) (fun _ H => ok_Mach_settled_3_w H  _ h)
theorem ok_Mach_giveRegisters_3_p2 {l : Launch} {rv : Int} {rσ : pS} {G : Nat → pL → List pV → pS → Prop} (H : px_R l 1 97 rv rσ G) : ∀ (n : Nat) (a1 : Int) (σ : pS), f_Mach_giveRegisters_3_p2 n a1 σ = some (rv, rσ) → G 2 [some (.inr 3), some (.inl a1)] [] σ := by
  intro n
  induction n with
  | zero =>
    intro a1 σ h
    unfold f_Mach_giveRegisters_3_p2 at h
    cases h
  | succ n ih =>
    intro a1 σ h
    unfold f_Mach_giveRegisters_3_p2 at h
    refine H [((1, 1, 0, 0, []), 1), ((2, 0, 0, 0, []), 1), ((17, 3, 4, 0, []), 3), ((16, 4, 11, 0, []), 3), ((13, 3, 60, 0, []), 3), ((2, 0, 0, 0, []), 1), ((17, 3, 4, 0, []), 3), ((17, 4, 8, 0, []), 3), ((1, 1, 0, 0, []), 1), ((19, 8, 20, 0, []), 1), ((24, 52, 1, 1, []), 3), ((14, 0, 54, 0, []), 3), ((2, 0, 0, 0, []), 1), ((17, 3, 28, 0, []), 3), ((17, 28, 29, 0, []), 3), ((2, 0, 0, 0, []), 1), ((17, 3, 4, 0, []), 3), ((17, 4, 8, 0, []), 3), ((1, 1, 0, 0, []), 1), ((19, 8, 20, 0, []), 1), ((2, 0, 0, 0, []), 1), ((17, 3, 32, 0, []), 3), ((17, 32, 36, 0, []), 3), ((1, 1, 0, 0, []), 1), ((19, 36, 20, 0, []), 1), ((20, 29, 8, 0, []), 1), ((5, 1, 0, 1, []), 3), ((12, 0, 2, 0, []), 3)] 2 _ _ _ (by decide +kernel) ?_
    rcases px_ite h with ⟨c1, h⟩ | ⟨c1, h⟩
    · refine And.intro (fun _ => ?_) (fun hn => absurd c1 hn)
      refine H [((28, 0, 0, 0, []), 1)] 60 _ _ _ (by decide +kernel) ?_
      exact (Prod.mk.inj (Option.some.inj h)).2
    · refine And.intro (fun hp => absurd hp c1) (fun _ => ?_)
      obtain ⟨g2, h⟩ := px_gd h
      refine And.intro g2 ?_
      obtain ⟨⟨vq3, σq3⟩, hq3, h⟩ := px_bind h
      dsimp only at h
      refine Exists.intro 0 (Exists.intro vq3 (Exists.intro σq3 (And.intro (Nat.le_of_ble_eq_true rfl) (And.intro (ok_X_isCell hq3) ?_))))
      rcases px_ite h with ⟨c4, h⟩ | ⟨c4, h⟩
      · refine And.intro (fun _ => ?_) (fun hn => absurd c4 hn)
        refine H [((5, 1, 0, 1, []), 3), ((12, 0, 2, 0, []), 3)] 54 _ _ _ (by decide +kernel) ?_
        exact ih _ _ h
      · refine And.intro (fun hp => absurd hp c4) (fun _ => ?_)
        obtain ⟨g5, h⟩ := px_gd h
        refine And.intro g5 ?_
        obtain ⟨g6, h⟩ := px_gd h
        refine And.intro g6 ?_
        obtain ⟨g7, h⟩ := px_gd h
        refine And.intro g7 ?_
        exact ih _ _ h
theorem ok_Mach_giveRegisters_3_w {l : Launch} {rv : Int} {rσ : pS} {G : Nat → pL → List pV → pS → Prop} (H : px_R l 1 97 rv rσ G) : ∀ (σ : pS), f_Mach_giveRegisters_3  σ = some (rv, rσ) → G 0 [some (.inr 3), none] [] σ := by
  intro  σ h
  unfold f_Mach_giveRegisters_3 at h
  refine H [((0, 0, 0, 0, []), 1), ((3, 1, 0, 0, []), 1)] 0 _ _ _ (by decide +kernel) ?_
  exact ok_Mach_giveRegisters_3_p2 H _ _ _ h
theorem ok_Mach_giveRegisters_3 {l : Launch} {σ : pS} {v : Int} {σ1 : pS} (h : f_Mach_giveRegisters_3  σ = some (v, σ1)) : Con l 1 97 [.inr 3] σ v σ1 := Con_mk 1 2 rfl (by decide +kernel) (fun _ H => ok_Mach_giveRegisters_3_w H  _ h)
theorem ok_Mach_go_3_p6 {l : Launch} {rv : Int} {rσ : pS} {G : Nat → pL → List pV → pS → Prop} (H : px_R l 5 59 rv rσ G) : ∀ (n : Nat) (a1 a2 a3 : Int) (σ : pS), f_Mach_go_3_p6 n a1 a2 a3 σ = some (rv, rσ) → G 6 [some (.inr 3), some (.inl a1), some (.inl a2), some (.inl a3)] [] σ := by
  intro n
  induction n with
  | zero =>
    intro a1 a2 a3 σ h
    unfold f_Mach_go_3_p6 at h
    cases h
  | succ n ih =>
    intro a1 a2 a3 σ h
    unfold f_Mach_go_3_p6 at h
    refine H [((1, 3, 0, 0, []), 1), ((0, 0, 0, 2000, []), 3), ((13, 4, 65, 0, []), 3), ((2, 0, 0, 0, []), 1), ((1, 3, 0, 0, []), 1), ((18, 3, 11, 0, []), 3), ((2, 0, 0, 0, []), 1), ((23, 65, 0, 0, [(0, 3)]), 3), ((2, 0, 0, 0, []), 1), ((1, 1, 0, 0, []), 1), ((1, 2, 0, 0, []), 1), ((23, 81, 2, 0, [(0, 3)]), 3), ((2, 0, 0, 0, []), 1), ((23, 91, 0, 0, [(0, 3)]), 3), ((2, 0, 0, 0, []), 1), ((23, 96, 0, 1, [(0, 3)]), 3), ((14, 0, 59, 0, []), 3), ((2, 0, 0, 0, []), 1), ((17, 3, 32, 0, []), 3), ((17, 32, 33, 0, []), 3), ((0, 0, 0, 0, []), 1), ((1, 3, 0, 0, []), 1), ((0, 0, 0, 1, []), 1), ((6, 0, 0, 0, []), 1), ((20, 33, 6, 0, []), 1), ((2, 0, 0, 0, []), 1), ((23, 97, 0, 0, [(0, 3)]), 3), ((1, 3, 0, 0, []), 1), ((0, 0, 0, 1, []), 1), ((6, 0, 0, 0, []), 1), ((27, 0, 0, 0, []), 1)] 6 _ _ _ (by decide +kernel) ?_
    rcases px_ite h with ⟨c2, h⟩ | ⟨c2, h⟩
    · refine And.intro (fun _ => ?_) (fun hn => absurd c2 hn)
      refine H [((0, 0, 0, (-5), []), 2), ((27, 0, 0, 0, []), 1)] 65 _ _ _ (by decide +kernel) ?_
      exact Prod.mk.inj (Option.some.inj h)
    · refine And.intro (fun hp => absurd hp c2) (fun _ => ?_)
      obtain ⟨⟨vq3, σq3⟩, hq3, h⟩ := px_bind h
      dsimp only at h
      refine Exists.intro 4 (Exists.intro vq3 (Exists.intro σq3 (And.intro (Nat.le_of_ble_eq_true rfl) (And.intro (ok_Mach_finishOps_3 hq3) ?_))))
      obtain ⟨⟨vq4, σq4⟩, hq4, h⟩ := px_bind h
      dsimp only at h
      refine Exists.intro 4 (Exists.intro vq4 (Exists.intro σq4 (And.intro (Nat.le_of_ble_eq_true rfl) (And.intro (ok_Mach_sendOff_3 hq4) ?_))))
      obtain ⟨⟨vq5, σq5⟩, hq5, h⟩ := px_bind h
      dsimp only at h
      refine Exists.intro 4 (Exists.intro vq5 (Exists.intro σq5 (And.intro (Nat.le_of_ble_eq_true rfl) (And.intro (ok_Mach_retireOne_3 hq5) ?_))))
      obtain ⟨⟨vq6, σq6⟩, hq6, h⟩ := px_bind h
      dsimp only at h
      refine Exists.intro 0 (Exists.intro vq6 (Exists.intro σq6 (And.intro (Nat.le_of_ble_eq_true rfl) (And.intro (ok_Mach_settled_3 hq6) ?_))))
      rcases px_ite h with ⟨c7, h⟩ | ⟨c7, h⟩
      · refine And.intro (fun _ => ?_) (fun hn => absurd c7 hn)
        refine H [((5, 3, 0, 1, []), 3), ((12, 0, 6, 0, []), 3)] 59 _ _ _ (by decide +kernel) ?_
        exact ih _ _ _ _ h
      · refine And.intro (fun hp => absurd hp c7) (fun _ => ?_)
        refine And.intro (show (0 : Int) ≤ 0 ∧ (0 : Int) < 6 from by decide) ?_
        obtain ⟨⟨vq8, σq8⟩, hq8, h⟩ := px_bind h
        dsimp only at h
        refine Exists.intro 1 (Exists.intro vq8 (Exists.intro σq8 (And.intro (Nat.le_of_ble_eq_true rfl) (And.intro (ok_Mach_giveRegisters_3 hq8) ?_))))
        exact Prod.mk.inj (Option.some.inj h)
theorem ok_Mach_go_3_w {l : Launch} {rv : Int} {rσ : pS} {G : Nat → pL → List pV → pS → Prop} (H : px_R l 5 59 rv rσ G) : ∀ (a1 a2 : Int) (σ : pS), f_Mach_go_3 a1 a2 σ = some (rv, rσ) → G 0 [some (.inr 3), some (.inl a1), some (.inl a2), none] [] σ := by
  intro a1 a2 σ h
  unfold f_Mach_go_3 at h
  refine H [((2, 0, 0, 0, []), 1), ((23, 60, 0, 0, [(0, 3)]), 3), ((0, 0, 0, 0, []), 1), ((3, 3, 0, 0, []), 1)] 0 _ _ _ (by decide +kernel) ?_
  obtain ⟨⟨vq1, σq1⟩, hq1, h⟩ := px_bind h
  dsimp only at h
  refine Exists.intro 3 (Exists.intro vq1 (Exists.intro σq1 (And.intro (Nat.le_of_ble_eq_true rfl) (And.intro (ok_Mach_begin_3 hq1) ?_))))
  exact ok_Mach_go_3_p6 H _ _ _ _ _ h
theorem ok_Mach_go_3 {l : Launch} {a1 a2 : Int} {σ : pS} {v : Int} {σ1 : pS} (h : f_Mach_go_3 a1 a2 σ = some (v, σ1)) : Con l 5 59 [.inr 3, .inl a1, .inl a2] σ v σ1 := Con_mk 3 4 rfl (by decide +kernel) (fun _ H => ok_Mach_go_3_w H _ _ _ h)
theorem ok_State_copyCellsFrom_24_28_w {l : Launch} {rv : Int} {rσ : pS} {G : Nat → pL → List pV → pS → Prop} (H : px_R l 1 62 rv rσ G) : ∀ (σ : pS), f_State_copyCellsFrom_24_28  σ = some (rv, rσ) → G 0 [some (.inr 24), some (.inr 28)] [] σ := by
  intro  σ h
  unfold f_State_copyCellsFrom_24_28 at h
  refine H [((2, 1, 0, 0, []), 1), ((17, 28, 29, 0, []), 3), ((0, 0, 0, 0, []), 1), ((2, 0, 0, 0, []), 1), ((17, 24, 25, 0, []), 3), ((0, 0, 0, 0, []), 1), ((0, 0, 0, 8, []), 2), ((26, 29, 25, 8, []), 3), ((2, 1, 0, 0, []), 1), ((17, 28, 30, 0, []), 3), ((0, 0, 0, 0, []), 1), ((2, 0, 0, 0, []), 1), ((17, 24, 26, 0, []), 3), ((0, 0, 0, 0, []), 1), ((0, 0, 0, 64, []), 2), ((26, 30, 26, 64, []), 3), ((2, 0, 0, 0, []), 1), ((2, 1, 0, 0, []), 1), ((16, 28, 4, 0, []), 3), ((18, 24, 4, 0, []), 3), ((2, 0, 0, 0, []), 1), ((2, 1, 0, 0, []), 1), ((16, 28, 5, 0, []), 3), ((18, 24, 5, 0, []), 3), ((28, 0, 0, 0, []), 1)] 0 _ _ _ (by decide +kernel) ?_
  exact (Prod.mk.inj (Option.some.inj h)).2
theorem ok_State_copyCellsFrom_24_28 {l : Launch} {σ : pS} {v : Int} {σ1 : pS} (h : f_State_copyCellsFrom_24_28  σ = some (v, σ1)) : Con l 1 62 [.inr 24, .inr 28] σ v σ1 := Con_mk 2 2 rfl (by decide +kernel) (fun _ H => ok_State_copyCellsFrom_24_28_w H  _ h)
theorem ok_State_copySetsFrom_24_28_w {l : Launch} {rv : Int} {rσ : pS} {G : Nat → pL → List pV → pS → Prop} (H : px_R l 1 63 rv rσ G) : ∀ (σ : pS), f_State_copySetsFrom_24_28  σ = some (rv, rσ) → G 0 [some (.inr 24), some (.inr 28)] [] σ := by
  intro  σ h
  unfold f_State_copySetsFrom_24_28 at h
  refine H [((2, 1, 0, 0, []), 1), ((17, 28, 31, 0, []), 3), ((0, 0, 0, 0, []), 1), ((2, 0, 0, 0, []), 1), ((17, 24, 27, 0, []), 3), ((0, 0, 0, 0, []), 1), ((0, 0, 0, 20, []), 2), ((26, 31, 27, 20, []), 3), ((2, 0, 0, 0, []), 1), ((2, 1, 0, 0, []), 1), ((16, 28, 3, 0, []), 3), ((18, 24, 3, 0, []), 3), ((28, 0, 0, 0, []), 1)] 0 _ _ _ (by decide +kernel) ?_
  exact (Prod.mk.inj (Option.some.inj h)).2
theorem ok_State_copySetsFrom_24_28 {l : Launch} {σ : pS} {v : Int} {σ1 : pS} (h : f_State_copySetsFrom_24_28  σ = some (v, σ1)) : Con l 1 63 [.inr 24, .inr 28] σ v σ1 := Con_mk 2 2 rfl (by decide +kernel) (fun _ H => ok_State_copySetsFrom_24_28_w H  _ h)
theorem ok_State_copyFrom_24_28_w {l : Launch} {rv : Int} {rσ : pS} {G : Nat → pL → List pV → pS → Prop} (H : px_R l 2 61 rv rσ G) : ∀ (σ : pS), f_State_copyFrom_24_28  σ = some (rv, rσ) → G 0 [some (.inr 24), some (.inr 28)] [] σ := by
  intro  σ h
  unfold f_State_copyFrom_24_28 at h
  refine H [((2, 0, 0, 0, []), 1), ((2, 1, 0, 0, []), 1), ((23, 62, 1, 0, [(0, 24)]), 3), ((2, 0, 0, 0, []), 1), ((2, 1, 0, 0, []), 1), ((23, 63, 1, 0, [(0, 24)]), 3), ((28, 0, 0, 0, []), 1)] 0 _ _ _ (by decide +kernel) ?_
  obtain ⟨⟨vq1, σq1⟩, hq1, h⟩ := px_bind h
  dsimp only at h
  refine Exists.intro 1 (Exists.intro vq1 (Exists.intro σq1 (And.intro (Nat.le_of_ble_eq_true rfl) (And.intro (ok_State_copyCellsFrom_24_28 hq1) ?_))))
  obtain ⟨⟨vq2, σq2⟩, hq2, h⟩ := px_bind h
  dsimp only at h
  refine Exists.intro 1 (Exists.intro vq2 (Exists.intro σq2 (And.intro (Nat.le_of_ble_eq_true rfl) (And.intro (ok_State_copySetsFrom_24_28 hq2) ?_))))
  exact (Prod.mk.inj (Option.some.inj h)).2
theorem ok_State_copyFrom_24_28 {l : Launch} {σ : pS} {v : Int} {σ1 : pS} (h : f_State_copyFrom_24_28  σ = some (v, σ1)) : Con l 2 61 [.inr 24, .inr 28] σ v σ1 := Con_mk 2 2 rfl (by decide +kernel) (fun _ H => ok_State_copyFrom_24_28_w H  _ h)
theorem ok_Rep_copyFrom_71_32_w {l : Launch} {rv : Int} {rσ : pS} {G : Nat → pL → List pV → pS → Prop} (H : px_R l 1 98 rv rσ G) : ∀ (σ : pS), f_Rep_copyFrom_71_32  σ = some (rv, rσ) → G 0 [some (.inr 71), some (.inr 32)] [] σ := by
  intro  σ h
  unfold f_Rep_copyFrom_71_32 at h
  refine H [((2, 1, 0, 0, []), 1), ((17, 32, 33, 0, []), 3), ((0, 0, 0, 0, []), 1), ((2, 0, 0, 0, []), 1), ((17, 71, 72, 0, []), 3), ((0, 0, 0, 0, []), 1), ((0, 0, 0, 6, []), 2), ((26, 33, 72, 6, []), 3), ((2, 1, 0, 0, []), 1), ((17, 32, 34, 0, []), 3), ((0, 0, 0, 0, []), 1), ((2, 0, 0, 0, []), 1), ((17, 71, 73, 0, []), 3), ((0, 0, 0, 0, []), 1), ((0, 0, 0, 20, []), 2), ((26, 34, 73, 20, []), 3), ((2, 1, 0, 0, []), 1), ((17, 32, 35, 0, []), 3), ((0, 0, 0, 0, []), 1), ((2, 0, 0, 0, []), 1), ((17, 71, 74, 0, []), 3), ((0, 0, 0, 0, []), 1), ((0, 0, 0, 20, []), 2), ((26, 35, 74, 20, []), 3), ((2, 1, 0, 0, []), 1), ((17, 32, 36, 0, []), 3), ((0, 0, 0, 0, []), 1), ((2, 0, 0, 0, []), 1), ((17, 71, 75, 0, []), 3), ((0, 0, 0, 0, []), 1), ((0, 0, 0, 20, []), 2), ((26, 36, 75, 20, []), 3), ((2, 1, 0, 0, []), 1), ((17, 32, 37, 0, []), 3), ((0, 0, 0, 0, []), 1), ((2, 0, 0, 0, []), 1), ((17, 71, 76, 0, []), 3), ((0, 0, 0, 0, []), 1), ((0, 0, 0, 20, []), 2), ((26, 37, 76, 20, []), 3), ((2, 1, 0, 0, []), 1), ((17, 32, 38, 0, []), 3), ((0, 0, 0, 0, []), 1), ((2, 0, 0, 0, []), 1), ((17, 71, 77, 0, []), 3), ((0, 0, 0, 0, []), 1), ((0, 0, 0, 80, []), 2), ((26, 38, 77, 80, []), 3), ((28, 0, 0, 0, []), 1)] 0 _ _ _ (by decide +kernel) ?_
  exact (Prod.mk.inj (Option.some.inj h)).2
theorem ok_Rep_copyFrom_71_32 {l : Launch} {σ : pS} {v : Int} {σ1 : pS} (h : f_Rep_copyFrom_71_32  σ = some (v, σ1)) : Con l 1 98 [.inr 71, .inr 32] σ v σ1 := Con_mk 2 2 rfl (by decide +kernel) (fun _ H => ok_Rep_copyFrom_71_32_w H  _ h)
theorem ok_X_run_0_w {l : Launch} {rv : Int} {rσ : pS} {G : Nat → pL → List pV → pS → Prop} (H : px_R l 6 57 rv rσ G) : ∀ (a1 : Int) (σ : pS), f_X_run_0 a1 σ = some (rv, rσ) → G 0 [some (.inr 0), some (.inl a1), none] [] σ := by
  intro a1 σ h
  unfold f_X_run_0 at h
  refine H [((2, 0, 0, 0, []), 1), ((1, 1, 0, 0, []), 1), ((23, 58, 1, 1, [(0, 0)]), 3), ((14, 1, 10, 0, []), 3), ((0, 0, 0, (-1), []), 1), ((27, 0, 0, 0, []), 1)] 0 _ _ _ (by decide +kernel) ?_
  obtain ⟨⟨vq1, σq1⟩, hq1, h⟩ := px_bind h
  dsimp only at h
  refine Exists.intro 0 (Exists.intro vq1 (Exists.intro σq1 (And.intro (Nat.le_of_ble_eq_true rfl) (And.intro (ok_X_canRun_0 hq1) ?_))))
  rcases px_ite h with ⟨c2, h⟩ | ⟨c2, h⟩
  · refine And.intro (fun hp => absurd c2 hp) (fun _ => ?_)
    exact Prod.mk.inj (Option.some.inj h)
  · refine And.intro (fun _ => ?_) (fun hn => absurd c2 hn)
    refine H [((2, 0, 0, 0, []), 1), ((17, 0, 3, 0, []), 3), ((1, 1, 0, 0, []), 1), ((0, 0, 0, 0, []), 1), ((23, 59, 2, 1, [(0, 3)]), 3), ((3, 2, 0, 0, []), 1), ((1, 2, 0, 0, []), 1), ((0, 0, 0, (-5), []), 2), ((13, 1, 49, 0, []), 3), ((2, 0, 0, 0, []), 1), ((17, 0, 3, 0, []), 3), ((17, 3, 24, 0, []), 3), ((2, 0, 0, 0, []), 1), ((17, 0, 3, 0, []), 3), ((17, 3, 28, 0, []), 3), ((16, 28, 5, 0, []), 3), ((18, 24, 5, 0, []), 3), ((0, 0, 0, (-5), []), 2), ((27, 0, 0, 0, []), 1)] 10 _ _ _ (by decide +kernel) ?_
    obtain ⟨⟨vq3, σq3⟩, hq3, h⟩ := px_bind h
    dsimp only at h
    refine Exists.intro 5 (Exists.intro vq3 (Exists.intro σq3 (And.intro (Nat.le_of_ble_eq_true rfl) (And.intro (ok_Mach_go_3 hq3) ?_))))
    rcases px_ite h with ⟨c4, h⟩ | ⟨c4, h⟩
    · refine And.intro (fun hp => absurd c4 hp) (fun _ => ?_)
      exact Prod.mk.inj (Option.some.inj h)
    · refine And.intro (fun _ => ?_) (fun hn => absurd c4 hn)
      refine H [((2, 0, 0, 0, []), 1), ((17, 0, 3, 0, []), 3), ((17, 3, 24, 0, []), 3), ((2, 0, 0, 0, []), 1), ((17, 0, 3, 0, []), 3), ((17, 3, 28, 0, []), 3), ((23, 61, 1, 0, [(0, 24)]), 3), ((2, 0, 0, 0, []), 1), ((17, 0, 3, 0, []), 3), ((17, 3, 24, 0, []), 3), ((0, 0, 0, 9999, []), 3), ((2, 0, 0, 0, []), 1), ((17, 0, 3, 0, []), 3), ((17, 3, 24, 0, []), 3), ((16, 24, 4, 0, []), 3), ((0, 0, 0, 1, []), 1), ((6, 0, 0, 0, []), 1), ((25, 0, 0, 0, []), 3), ((18, 24, 4, 0, []), 3), ((2, 0, 0, 0, []), 1), ((17, 0, 71, 0, []), 3), ((2, 0, 0, 0, []), 1), ((17, 0, 3, 0, []), 3), ((17, 3, 32, 0, []), 3), ((23, 98, 1, 0, [(0, 71)]), 3), ((2, 0, 0, 0, []), 1), ((0, 0, 0, 1, []), 1), ((18, 0, 8, 1, []), 3), ((1, 2, 0, 0, []), 1), ((27, 0, 0, 0, []), 1)] 49 _ _ _ (by decide +kernel) ?_
      obtain ⟨⟨vq5, σq5⟩, hq5, h⟩ := px_bind h
      dsimp only at h
      refine Exists.intro 2 (Exists.intro vq5 (Exists.intro σq5 (And.intro (Nat.le_of_ble_eq_true rfl) (And.intro (ok_State_copyFrom_24_28 hq5) ?_))))
      obtain ⟨⟨vq6, σq6⟩, hq6, h⟩ := px_bind h
      dsimp only at h
      refine Exists.intro 1 (Exists.intro vq6 (Exists.intro σq6 (And.intro (Nat.le_of_ble_eq_true rfl) (And.intro (ok_Rep_copyFrom_71_32 hq6) ?_))))
      refine And.intro (show (0 : Int) ≤ 1 ∧ (1 : Int) ≤ 1 from by decide) ?_
      exact Prod.mk.inj (Option.some.inj h)
theorem ok_X_run_0 {l : Launch} {a1 : Int} {σ : pS} {v : Int} {σ1 : pS} (h : f_X_run_0 a1 σ = some (v, σ1)) : Con l 6 57 [.inr 0, .inl a1] σ v σ1 := Con_mk 2 3 rfl (by decide +kernel) (fun _ H => ok_X_run_0_w H _ _ h)
theorem ok_M_canRun_84_w {l : Launch} {rv : Int} {rσ : pS} {G : Nat → pL → List pV → pS → Prop} (H : px_R l 1 176 rv rσ G) : ∀ (a1 : Int) (σ : pS), f_M_canRun_84 a1 σ = some (rv, rσ) → G 0 [some (.inr 84), some (.inl a1)] [] σ := by
  intro a1 σ h
  unfold f_M_canRun_84 at h
  refine H [((1, 1, 0, 0, []), 1), ((0, 0, 0, 1, []), 1), ((0, 0, 0, 4, []), 1), ((24, 137, 3, 1, []), 3), ((14, 0, 20, 0, []), 3), ((2, 0, 0, 0, []), 1), ((16, 84, 2, 0, []), 3), ((14, 5, 20, 0, []), 3), ((0, 0, 0, 1, []), 1), ((12, 0, 21, 0, []), 3), ((27, 1, 0, 0, []), 1)] 0 _ _ _ (by decide +kernel) ?_
  obtain ⟨⟨vq1, σq1⟩, hq1, h⟩ := px_bind h
  dsimp only at h
  refine Exists.intro 0 (Exists.intro vq1 (Exists.intro σq1 (And.intro (Nat.le_of_ble_eq_true rfl) (And.intro (ok_M_in hq1) ?_))))
  rcases px_ite h with ⟨c2, h⟩ | ⟨c2, h⟩
  · refine And.intro (fun _ => ?_) (fun hn => absurd c2 hn)
    refine H [((0, 0, 0, 0, []), 1), ((27, 1, 0, 0, []), 1)] 20 _ _ _ (by decide +kernel) ?_
    refine And.intro (show (0 : Int) ≤ 0 ∧ (0 : Int) ≤ 1 from by decide) ?_
    exact Prod.mk.inj (Option.some.inj h)
  · refine And.intro (fun hp => absurd hp c2) (fun _ => ?_)
    rcases px_ite h with ⟨c3, h⟩ | ⟨c3, h⟩
    · refine And.intro (fun _ => ?_) (fun hn => absurd c3 hn)
      refine H [((0, 0, 0, 0, []), 1), ((27, 1, 0, 0, []), 1)] 20 _ _ _ (by decide +kernel) ?_
      refine And.intro (show (0 : Int) ≤ 0 ∧ (0 : Int) ≤ 1 from by decide) ?_
      exact Prod.mk.inj (Option.some.inj h)
    · refine And.intro (fun hp => absurd hp c3) (fun _ => ?_)
      refine And.intro (show (0 : Int) ≤ 1 ∧ (1 : Int) ≤ 1 from by decide) ?_
      exact Prod.mk.inj (Option.some.inj h)
theorem ok_M_canRun_84 {l : Launch} {a1 : Int} {σ : pS} {v : Int} {σ1 : pS} (h : f_M_canRun_84 a1 σ = some (v, σ1)) : Con l 1 176 [.inr 84, .inl a1] σ v σ1 := Con_mk 2 2 rfl (by decide +kernel) (fun _ H => ok_M_canRun_84_w H _ _ h)
theorem ok_M_readBy_84_w {l : Launch} {rv : Int} {rσ : pS} {G : Nat → pL → List pV → pS → Prop} (H : px_R l 2 180 rv rσ G) : ∀ (a1 a2 : Int) (σ : pS), f_M_readBy_84 a1 a2 σ = some (rv, rσ) → G 0 [some (.inr 84), some (.inl a1), some (.inl a2), none] [] σ := by
  intro a1 a2 σ h
  unfold f_M_readBy_84 at h
  refine H [((2, 0, 0, 0, []), 1), ((1, 1, 0, 0, []), 1), ((1, 2, 0, 0, []), 1), ((23, 173, 2, 1, [(0, 84)]), 3), ((3, 3, 0, 0, []), 1), ((1, 3, 0, 0, []), 1), ((0, 0, 0, (-1), []), 1), ((13, 1, 21, 0, []), 3), ((2, 0, 0, 0, []), 1), ((17, 84, 85, 0, []), 3), ((1, 2, 0, 0, []), 1), ((19, 85, 8, 0, []), 1), ((12, 0, 27, 0, []), 3), ((27, 0, 0, 0, []), 1)] 0 _ _ _ (by decide +kernel) ?_
  obtain ⟨⟨vq1, σq1⟩, hq1, h⟩ := px_bind h
  dsimp only at h
  refine Exists.intro 1 (Exists.intro vq1 (Exists.intro σq1 (And.intro (Nat.le_of_ble_eq_true rfl) (And.intro (ok_M_giverOf_84 hq1) ?_))))
  rcases px_ite h with ⟨c2, h⟩ | ⟨c2, h⟩
  · refine And.intro (fun hp => absurd c2 hp) (fun _ => ?_)
    obtain ⟨g4, h⟩ := px_gd h
    refine And.intro g4 ?_
    exact Prod.mk.inj (Option.some.inj h)
  · refine And.intro (fun _ => ?_) (fun hn => absurd c2 hn)
    refine H [((2, 0, 0, 0, []), 1), ((17, 84, 120, 0, []), 3), ((1, 3, 0, 0, []), 1), ((19, 120, 20, 0, []), 1), ((27, 0, 0, 0, []), 1)] 21 _ _ _ (by decide +kernel) ?_
    obtain ⟨g3, h⟩ := px_gd h
    refine And.intro g3 ?_
    exact Prod.mk.inj (Option.some.inj h)
theorem ok_M_readBy_84 {l : Launch} {a1 a2 : Int} {σ : pS} {v : Int} {σ1 : pS} (h : f_M_readBy_84 a1 a2 σ = some (v, σ1)) : Con l 2 180 [.inr 84, .inl a1, .inl a2] σ v σ1 := Con_mk 3 4 rfl (by decide +kernel) (fun _ H => ok_M_readBy_84_w H _ _ _ h)
theorem ok_M_oldestToRetire_84_p2 {l : Launch} {rv : Int} {rσ : pS} {G : Nat → pL → List pV → pS → Prop} (H : px_R l 0 206 rv rσ G) : ∀ (n : Nat) (a1 : Int) (σ : pS), f_M_oldestToRetire_84_p2 n a1 σ = some (rv, rσ) → G 2 [some (.inr 84), some (.inl a1)] [] σ := by
  intro n
  induction n with
  | zero =>
    intro a1 σ h
    unfold f_M_oldestToRetire_84_p2 at h
    cases h
  | succ n ih =>
    intro a1 σ h
    unfold f_M_oldestToRetire_84_p2 at h
    refine H [((1, 1, 0, 0, []), 1), ((2, 0, 0, 0, []), 1), ((16, 84, 2, 0, []), 3), ((13, 3, 47, 0, []), 3), ((2, 0, 0, 0, []), 1), ((17, 84, 88, 0, []), 3), ((1, 1, 0, 0, []), 1), ((19, 88, 20, 0, []), 1), ((0, 0, 0, 3, []), 1), ((13, 1, 41, 0, []), 3), ((2, 0, 0, 0, []), 1), ((17, 84, 118, 0, []), 3), ((1, 1, 0, 0, []), 1), ((19, 118, 20, 0, []), 1), ((0, 0, 0, 2, []), 1), ((13, 1, 41, 0, []), 3), ((2, 0, 0, 0, []), 1), ((17, 84, 126, 0, []), 3), ((1, 1, 0, 0, []), 1), ((19, 126, 20, 0, []), 1), ((14, 1, 41, 0, []), 3), ((1, 1, 0, 0, []), 1), ((27, 0, 0, 0, []), 1)] 2 _ _ _ (by decide +kernel) ?_
    rcases px_ite h with ⟨c1, h⟩ | ⟨c1, h⟩
    · refine And.intro (fun _ => ?_) (fun hn => absurd c1 hn)
      refine H [((0, 0, 0, (-1), []), 1), ((27, 0, 0, 0, []), 1)] 47 _ _ _ (by decide +kernel) ?_
      exact Prod.mk.inj (Option.some.inj h)
    · refine And.intro (fun hp => absurd hp c1) (fun _ => ?_)
      obtain ⟨g2, h⟩ := px_gd h
      refine And.intro g2 ?_
      rcases px_ite h with ⟨c3, h⟩ | ⟨c3, h⟩
      · refine And.intro (fun hp => absurd c3 hp) (fun _ => ?_)
        obtain ⟨g4, h⟩ := px_gd h
        refine And.intro g4 ?_
        rcases px_ite h with ⟨c5, h⟩ | ⟨c5, h⟩
        · refine And.intro (fun hp => absurd c5 hp) (fun _ => ?_)
          obtain ⟨g6, h⟩ := px_gd h
          refine And.intro g6 ?_
          rcases px_ite h with ⟨c7, h⟩ | ⟨c7, h⟩
          · refine And.intro (fun hp => absurd c7 hp) (fun _ => ?_)
            exact Prod.mk.inj (Option.some.inj h)
          · refine And.intro (fun _ => ?_) (fun hn => absurd c7 hn)
            refine H [((5, 1, 0, 1, []), 3), ((12, 0, 2, 0, []), 3)] 41 _ _ _ (by decide +kernel) ?_
            exact ih _ _ h
        · refine And.intro (fun _ => ?_) (fun hn => absurd c5 hn)
          refine H [((5, 1, 0, 1, []), 3), ((12, 0, 2, 0, []), 3)] 41 _ _ _ (by decide +kernel) ?_
          exact ih _ _ h
      · refine And.intro (fun _ => ?_) (fun hn => absurd c3 hn)
        refine H [((5, 1, 0, 1, []), 3), ((12, 0, 2, 0, []), 3)] 41 _ _ _ (by decide +kernel) ?_
        exact ih _ _ h
theorem ok_M_oldestToRetire_84_w {l : Launch} {rv : Int} {rσ : pS} {G : Nat → pL → List pV → pS → Prop} (H : px_R l 0 206 rv rσ G) : ∀ (σ : pS), f_M_oldestToRetire_84  σ = some (rv, rσ) → G 0 [some (.inr 84), none] [] σ := by
  intro  σ h
  unfold f_M_oldestToRetire_84 at h
  refine H [((0, 0, 0, 0, []), 1), ((3, 1, 0, 0, []), 1)] 0 _ _ _ (by decide +kernel) ?_
  exact ok_M_oldestToRetire_84_p2 H _ _ _ h
theorem ok_M_oldestToRetire_84 {l : Launch} {σ : pS} {v : Int} {σ1 : pS} (h : f_M_oldestToRetire_84  σ = some (v, σ1)) : Con l 0 206 [.inr 84] σ v σ1 := Con_mk 1 2 rfl (by decide +kernel) (fun _ H => ok_M_oldestToRetire_84_w H  _ h)
theorem ok_M_areAllDone_84_p2 {l : Launch} {rv : Int} {rσ : pS} {G : Nat → pL → List pV → pS → Prop} (H : px_R l 0 207 rv rσ G) : ∀ (n : Nat) (a1 a2 : Int) (σ : pS), f_M_areAllDone_84_p2 n a1 a2 σ = some (rv, rσ) → G 2 [some (.inr 84), some (.inl a1), some (.inl a2)] [] σ := by
  intro n
  induction n with
  | zero =>
    intro a1 a2 σ h
    unfold f_M_areAllDone_84_p2 at h
    cases h
  | succ n ih =>
    intro a1 a2 σ h
    unfold f_M_areAllDone_84_p2 at h
    refine H [((1, 2, 0, 0, []), 1), ((1, 1, 0, 0, []), 1), ((13, 3, 25, 0, []), 3), ((2, 0, 0, 0, []), 1), ((17, 84, 118, 0, []), 3), ((1, 2, 0, 0, []), 1), ((19, 118, 20, 0, []), 1), ((0, 0, 0, 2, []), 1), ((13, 0, 19, 0, []), 3), ((0, 0, 0, 0, []), 1), ((27, 1, 0, 0, []), 1)] 2 _ _ _ (by decide +kernel) ?_
    rcases px_ite h with ⟨c1, h⟩ | ⟨c1, h⟩
    · refine And.intro (fun _ => ?_) (fun hn => absurd c1 hn)
      refine H [((0, 0, 0, 1, []), 1), ((27, 1, 0, 0, []), 1)] 25 _ _ _ (by decide +kernel) ?_
      refine And.intro (show (0 : Int) ≤ 1 ∧ (1 : Int) ≤ 1 from by decide) ?_
      exact Prod.mk.inj (Option.some.inj h)
    · refine And.intro (fun hp => absurd hp c1) (fun _ => ?_)
      obtain ⟨g2, h⟩ := px_gd h
      refine And.intro g2 ?_
      rcases px_ite h with ⟨c3, h⟩ | ⟨c3, h⟩
      · refine And.intro (fun _ => ?_) (fun hn => absurd c3 hn)
        refine H [((5, 2, 0, 1, []), 3), ((12, 0, 2, 0, []), 3)] 19 _ _ _ (by decide +kernel) ?_
        exact ih _ _ _ h
      · refine And.intro (fun hp => absurd hp c3) (fun _ => ?_)
        refine And.intro (show (0 : Int) ≤ 0 ∧ (0 : Int) ≤ 1 from by decide) ?_
        exact Prod.mk.inj (Option.some.inj h)
theorem ok_M_areAllDone_84_w {l : Launch} {rv : Int} {rσ : pS} {G : Nat → pL → List pV → pS → Prop} (H : px_R l 0 207 rv rσ G) : ∀ (a1 : Int) (σ : pS), f_M_areAllDone_84 a1 σ = some (rv, rσ) → G 0 [some (.inr 84), some (.inl a1), none] [] σ := by
  intro a1 σ h
  unfold f_M_areAllDone_84 at h
  refine H [((0, 0, 0, 0, []), 1), ((3, 2, 0, 0, []), 1)] 0 _ _ _ (by decide +kernel) ?_
  exact ok_M_areAllDone_84_p2 H _ _ _ _ h
theorem ok_M_areAllDone_84 {l : Launch} {a1 : Int} {σ : pS} {v : Int} {σ1 : pS} (h : f_M_areAllDone_84 a1 σ = some (v, σ1)) : Con l 0 207 [.inr 84, .inl a1] σ v σ1 := Con_mk 2 3 rfl (by decide +kernel) (fun _ H => ok_M_areAllDone_84_w H _ _ h)
theorem ok_M_undoesTo_84_p26 {l : Launch} {rv : Int} {rσ : pS} {G : Nat → pL → List pV → pS → Prop} (H : px_R l 0 196 rv rσ G) {k_7 : Int → Int → pS → Option (Int × pS)} (hk_7 : ∀ (a1 a2 : Int) (σ : pS), k_7 a1 a2 σ = some (rv, rσ) → G 7 [some (.inr 84), some (.inl a1), some (.inl a2), none] [] σ) : ∀ (n : Nat) (a1 a2 a3 : Int) (σ : pS), f_M_undoesTo_84_p26 k_7 n a1 a2 a3 σ = some (rv, rσ) → G 26 [some (.inr 84), some (.inl a1), some (.inl a2), some (.inl a3)] [] σ := by
  intro n
  induction n with
  | zero =>
    intro a1 a2 a3 σ h
    unfold f_M_undoesTo_84_p26 at h
    cases h
  | succ n ih =>
    intro a1 a2 a3 σ h
    unfold f_M_undoesTo_84_p26 at h
    refine H [((1, 3, 0, 0, []), 1), ((2, 0, 0, 0, []), 1), ((17, 84, 93, 0, []), 3), ((1, 2, 0, 0, []), 1), ((19, 93, 20, 0, []), 1), ((13, 3, 68, 0, []), 3), ((2, 0, 0, 0, []), 1), ((17, 84, 128, 0, []), 3), ((2, 0, 0, 0, []), 1), ((17, 84, 132, 0, []), 3), ((1, 2, 0, 0, []), 1), ((19, 132, 20, 0, []), 1), ((1, 3, 0, 0, []), 1), ((6, 0, 0, 0, []), 1), ((0, 0, 0, 63, []), 2), ((6, 3, 0, 0, []), 1), ((2, 0, 0, 0, []), 1), ((17, 84, 125, 0, []), 3), ((0, 0, 0, 4, []), 1), ((1, 2, 0, 0, []), 1), ((6, 2, 0, 0, []), 1), ((1, 3, 0, 0, []), 1), ((6, 0, 0, 0, []), 1), ((19, 125, 80, 0, []), 1), ((20, 128, 64, 0, []), 1), ((5, 3, 0, 1, []), 3), ((12, 0, 26, 0, []), 3)] 26 _ _ _ (by decide +kernel) ?_
    obtain ⟨g4, h⟩ := px_gd h
    refine And.intro g4 ?_
    rcases px_ite h with ⟨c5, h⟩ | ⟨c5, h⟩
    · refine And.intro (fun _ => ?_) (fun hn => absurd c5 hn)
      refine H [((2, 0, 0, 0, []), 1), ((17, 84, 126, 0, []), 3), ((1, 2, 0, 0, []), 1), ((0, 0, 0, 0, []), 1), ((20, 126, 20, 1, []), 1), ((2, 0, 0, 0, []), 1), ((2, 0, 0, 0, []), 1), ((16, 84, 67, 0, []), 3), ((0, 0, 0, 1, []), 1), ((6, 0, 0, 0, []), 1), ((18, 84, 67, 0, []), 3), ((5, 2, 0, (-1), []), 3), ((12, 0, 7, 0, []), 3), ((29, 3, 0, 0, []), 0)] 68 _ _ _ (by decide +kernel) ?_
      obtain ⟨g6, h⟩ := px_gd h
      refine And.intro g6 ?_
      refine And.intro (show (0 : Int) ≤ 0 ∧ (0 : Int) ≤ 1 from by decide) ?_
      exact hk_7 _ _ _ h
    · refine And.intro (fun hp => absurd hp c5) (fun _ => ?_)
      obtain ⟨g7, h⟩ := px_gd h
      refine And.intro g7 ?_
      obtain ⟨g8, h⟩ := px_gd h
      refine And.intro g8 ?_
      obtain ⟨g9, h⟩ := px_gd h
      refine And.intro g9 ?_
      exact ih _ _ _ _ h
theorem ok_M_undoesTo_84_p7 {l : Launch} {rv : Int} {rσ : pS} {G : Nat → pL → List pV → pS → Prop} (H : px_R l 0 196 rv rσ G) : ∀ (n : Nat) (a1 a2 : Int) (σ : pS), f_M_undoesTo_84_p7 n a1 a2 σ = some (rv, rσ) → G 7 [some (.inr 84), some (.inl a1), some (.inl a2), none] [] σ := by
  intro n
  induction n with
  | zero =>
    intro a1 a2 σ h
    unfold f_M_undoesTo_84_p7 at h
    cases h
  | succ n ih =>
    intro a1 a2 σ h
    unfold f_M_undoesTo_84_p7 at h
    refine H [((1, 2, 0, 0, []), 1), ((1, 1, 0, 0, []), 1), ((13, 2, 91, 0, []), 3), ((2, 0, 0, 0, []), 1), ((17, 84, 126, 0, []), 3), ((1, 2, 0, 0, []), 1), ((19, 126, 20, 0, []), 1), ((14, 1, 24, 0, []), 3), ((12, 0, 85, 0, []), 3), ((5, 2, 0, (-1), []), 3), ((12, 0, 7, 0, []), 3)] 7 _ _ _ (by decide +kernel) ?_
    rcases px_ite h with ⟨c1, h⟩ | ⟨c1, h⟩
    · refine And.intro (fun _ => ?_) (fun hn => absurd c1 hn)
      refine H [((28, 0, 0, 0, []), 1)] 91 _ _ _ (by decide +kernel) ?_
      exact (Prod.mk.inj (Option.some.inj h)).2
    · refine And.intro (fun hp => absurd hp c1) (fun _ => ?_)
      obtain ⟨g2, h⟩ := px_gd h
      refine And.intro g2 ?_
      rcases px_ite h with ⟨c3, h⟩ | ⟨c3, h⟩
      · refine And.intro (fun hp => absurd c3 hp) (fun _ => ?_)
        exact ih _ _ _ h
      · refine And.intro (fun _ => ?_) (fun hn => absurd c3 hn)
        refine H [((0, 0, 0, 0, []), 1), ((3, 3, 0, 0, []), 1)] 24 _ _ _ (by decide +kernel) ?_
        exact ok_M_undoesTo_84_p26 H ih _ _ _ _ _ h
theorem ok_M_undoesTo_84_w {l : Launch} {rv : Int} {rσ : pS} {G : Nat → pL → List pV → pS → Prop} (H : px_R l 0 196 rv rσ G) : ∀ (a1 : Int) (σ : pS), f_M_undoesTo_84 a1 σ = some (rv, rσ) → G 0 [some (.inr 84), some (.inl a1), none, none] [] σ := by
  intro a1 σ h
  unfold f_M_undoesTo_84 at h
  refine H [((2, 0, 0, 0, []), 1), ((16, 84, 2, 0, []), 3), ((0, 0, 0, 1, []), 1), ((6, 1, 0, 0, []), 1), ((3, 2, 0, 0, []), 1)] 0 _ _ _ (by decide +kernel) ?_
  exact ok_M_undoesTo_84_p7 H _ _ _ _ h
theorem ok_M_undoesTo_84 {l : Launch} {a1 : Int} {σ : pS} {v : Int} {σ1 : pS} (h : f_M_undoesTo_84 a1 σ = some (v, σ1)) : Con l 0 196 [.inr 84, .inl a1] σ v σ1 := Con_mk 2 4 rfl (by decide +kernel) (fun _ H => ok_M_undoesTo_84_w H _ _ h)
theorem ok_M_byteOf_w {l : Launch} {rv : Int} {rσ : pS} {G : Nat → pL → List pV → pS → Prop} (H : px_R l 0 185 rv rσ G) : ∀ (a0 a1 : Int) (σ : pS), f_M_byteOf a0 a1 σ = some (rv, rσ) → G 0 [some (.inl a0), some (.inl a1)] [] σ := by
  intro a0 a1 σ h
  unfold f_M_byteOf at h
  refine H [((1, 0, 0, 0, []), 1), ((0, 0, 0, 8, []), 2), ((1, 1, 0, 0, []), 1), ((6, 2, 0, 0, []), 1), ((6, 7, 0, 0, []), 1), ((0, 0, 0, 255, []), 3), ((6, 3, 0, 0, []), 1), ((27, 0, 0, 0, []), 1)] 0 _ _ _ (by decide +kernel) ?_
  exact Prod.mk.inj (Option.some.inj h)
theorem ok_M_byteOf {l : Launch} {a0 a1 : Int} {σ : pS} {v : Int} {σ1 : pS} (h : f_M_byteOf a0 a1 σ = some (v, σ1)) : Con l 0 185 [.inl a0, .inl a1] σ v σ1 := Con_mk 2 2 rfl (by decide +kernel) (fun _ H => ok_M_byteOf_w H _ _ _ h)
theorem ok_M_feels_84_p55 {l : Launch} {rv : Int} {rσ : pS} {G : Nat → pL → List pV → pS → Prop} (H : px_R l 0 201 rv rσ G) : ∀ (a1 a3 s0 s1 : Int) (σ : pS), f_M_feels_84_p55 a1 a3 s0 s1 σ = some (rv, rσ) → G 55 [some (.inr 84), some (.inl a1), none, some (.inl a3)] [.inl s0, .inl s1, .inr 109] σ := by
  intro a1 a3 s0 s1 σ h
  unfold f_M_feels_84_p55 at h
  refine H [((20, 109, 7, 0, []), 1), ((2, 0, 0, 0, []), 1), ((17, 84, 109, 0, []), 3), ((0, 0, 0, 4, []), 1), ((2, 0, 0, 0, []), 1), ((17, 84, 123, 0, []), 3), ((1, 1, 0, 0, []), 1), ((19, 123, 20, 0, []), 1), ((20, 109, 7, 0, []), 1), ((2, 0, 0, 0, []), 1), ((17, 84, 109, 0, []), 3), ((0, 0, 0, 5, []), 1), ((2, 0, 0, 0, []), 1), ((16, 84, 1, 0, []), 3), ((0, 0, 0, 100, []), 2), ((7, 1, 0, 0, []), 1), ((20, 109, 7, 0, []), 1), ((2, 0, 0, 0, []), 1), ((17, 84, 109, 0, []), 3), ((0, 0, 0, 6, []), 2), ((1, 3, 0, 0, []), 1), ((20, 109, 7, 0, []), 1), ((28, 0, 0, 0, []), 1)] 55 _ _ _ (by decide +kernel) ?_
  obtain ⟨g6, h⟩ := px_gd h
  refine And.intro g6 ?_
  obtain ⟨g7, h⟩ := px_gd h
  refine And.intro g7 ?_
  refine And.intro (show (0 : Int) ≤ 4 ∧ (4 : Int) < 7 from by decide) ?_
  refine And.intro (show (100 : Int) ≠ 0 from by decide) (fun r8 hr8 => ?_)
  replace hr8 : r8 = pRem (σ 84 1) 100 := hr8.trans (px_dr_1 _ _)
  try rw [← hr8] at h
  refine And.intro (show (0 : Int) ≤ 5 ∧ (5 : Int) < 7 from by decide) ?_
  refine And.intro (show (0 : Int) ≤ 6 ∧ (6 : Int) < 7 from by decide) ?_
  exact (Prod.mk.inj (Option.some.inj h)).2
theorem ok_M_feels_84_w {l : Launch} {rv : Int} {rσ : pS} {G : Nat → pL → List pV → pS → Prop} (H : px_R l 0 201 rv rσ G) : ∀ (a1 a2 a3 : Int) (σ : pS), f_M_feels_84 a1 a2 a3 σ = some (rv, rσ) → G 0 [some (.inr 84), some (.inl a1), some (.inl a2), some (.inl a3)] [] σ := by
  intro a1 a2 a3 σ h
  unfold f_M_feels_84 at h
  refine H [((2, 0, 0, 0, []), 1), ((17, 84, 109, 0, []), 3), ((0, 0, 0, 0, []), 1), ((1, 1, 0, 0, []), 1), ((20, 109, 7, 0, []), 1), ((2, 0, 0, 0, []), 1), ((17, 84, 109, 0, []), 3), ((0, 0, 0, 1, []), 1), ((2, 0, 0, 0, []), 1), ((17, 84, 88, 0, []), 3), ((1, 1, 0, 0, []), 1), ((19, 88, 20, 0, []), 1), ((20, 109, 7, 0, []), 1), ((2, 0, 0, 0, []), 1), ((17, 84, 109, 0, []), 3), ((0, 0, 0, 2, []), 1), ((1, 2, 0, 0, []), 1), ((0, 0, 0, 100, []), 2), ((7, 1, 0, 0, []), 1), ((20, 109, 7, 0, []), 1), ((2, 0, 0, 0, []), 1), ((17, 84, 109, 0, []), 3), ((0, 0, 0, 3, []), 1), ((2, 0, 0, 0, []), 1), ((17, 84, 87, 0, []), 3), ((1, 1, 0, 0, []), 1), ((19, 87, 20, 0, []), 1), ((0, 0, 0, (-1), []), 1), ((13, 1, 49, 0, []), 3), ((0, 0, 0, 16, []), 2), ((12, 0, 55, 0, []), 3), ((29, 2, 0, 0, []), 0)] 0 _ _ _ (by decide +kernel) ?_
  refine And.intro (show (0 : Int) ≤ 0 ∧ (0 : Int) < 7 from by decide) ?_
  obtain ⟨g1, h⟩ := px_gd h
  refine And.intro g1 ?_
  refine And.intro (show (0 : Int) ≤ 1 ∧ (1 : Int) < 7 from by decide) ?_
  refine And.intro (show (100 : Int) ≠ 0 from by decide) (fun r2 hr2 => ?_)
  replace hr2 : r2 = pRem a2 100 := hr2.trans (px_dr_1 _ _)
  try rw [← hr2] at h
  refine And.intro (show (0 : Int) ≤ 2 ∧ (2 : Int) < 7 from by decide) ?_
  obtain ⟨g3, h⟩ := px_gd h
  refine And.intro g3 ?_
  rcases px_ite h with ⟨c4, h⟩ | ⟨c4, h⟩
  · refine And.intro (fun hp => absurd c4 hp) (fun _ => ?_)
    exact ok_M_feels_84_p55 H _ _ _ _ _ h
  · refine And.intro (fun _ => ?_) (fun hn => absurd c4 hn)
    refine H [((2, 0, 0, 0, []), 1), ((17, 84, 87, 0, []), 3), ((1, 1, 0, 0, []), 1), ((19, 87, 20, 0, []), 1), ((29, 2, 0, 0, []), 0)] 49 _ _ _ (by decide +kernel) ?_
    obtain ⟨g5, h⟩ := px_gd h
    refine And.intro g5 ?_
    exact ok_M_feels_84_p55 H _ _ _ _ _ h
theorem ok_M_feels_84 {l : Launch} {a1 a2 a3 : Int} {σ : pS} {v : Int} {σ1 : pS} (h : f_M_feels_84 a1 a2 a3 σ = some (v, σ1)) : Con l 0 201 [.inr 84, .inl a1, .inl a2, .inl a3] σ v σ1 := Con_mk 4 4 rfl (by decide +kernel) (fun _ H => ok_M_feels_84_w H _ _ _ _ h)
theorem ok_M_reckon_w {l : Launch} {rv : Int} {rσ : pS} {G : Nat → pL → List pV → pS → Prop} (H : px_R l 0 204 rv rσ G) : ∀ (a0 a1 a2 : Int) (σ : pS), f_M_reckon a0 a1 a2 σ = some (rv, rσ) → G 0 [some (.inl a0), some (.inl a1), some (.inl a2)] [] σ := by
  intro a0 a1 a2 σ h
  unfold f_M_reckon at h
  refine H [((1, 0, 0, 0, []), 1), ((15, 0, 86, 0, [(2, 44), (3, 48), (4, 52), (5, 56), (6, 60), (7, 64), (8, 75)]), 43)] 0 _ _ _ (by decide +kernel) ?_
  rcases px_ite h with ⟨c1, h⟩ | ⟨c1, h⟩
  · refine And.intro (fun _ => ?_) (fun hn => absurd c1 hn)
    refine H [((1, 1, 0, 0, []), 1), ((1, 2, 0, 0, []), 1), ((6, 0, 0, 0, []), 1), ((27, 0, 0, 0, []), 1)] 44 _ _ _ (by decide +kernel) ?_
    exact Prod.mk.inj (Option.some.inj h)
  · refine And.intro (fun hp => absurd hp c1) (fun _ => ?_)
    rcases px_ite h with ⟨c2, h⟩ | ⟨c2, h⟩
    · refine And.intro (fun _ => ?_) (fun hn => absurd c2 hn)
      refine H [((1, 1, 0, 0, []), 1), ((1, 2, 0, 0, []), 1), ((6, 1, 0, 0, []), 1), ((27, 0, 0, 0, []), 1)] 48 _ _ _ (by decide +kernel) ?_
      exact Prod.mk.inj (Option.some.inj h)
    · refine And.intro (fun hp => absurd hp c2) (fun _ => ?_)
      rcases px_ite h with ⟨c3, h⟩ | ⟨c3, h⟩
      · refine And.intro (fun _ => ?_) (fun hn => absurd c3 hn)
        refine H [((1, 1, 0, 0, []), 1), ((1, 2, 0, 0, []), 1), ((6, 2, 0, 0, []), 1), ((27, 0, 0, 0, []), 1)] 52 _ _ _ (by decide +kernel) ?_
        exact Prod.mk.inj (Option.some.inj h)
      · refine And.intro (fun hp => absurd hp c3) (fun _ => ?_)
        rcases px_ite h with ⟨c4, h⟩ | ⟨c4, h⟩
        · refine And.intro (fun _ => ?_) (fun hn => absurd c4 hn)
          refine H [((1, 1, 0, 0, []), 1), ((1, 2, 0, 0, []), 1), ((7, 0, 0, 0, []), 1), ((27, 0, 0, 0, []), 1)] 56 _ _ _ (by decide +kernel) ?_
          obtain ⟨g6, h⟩ := px_gd h
          refine And.intro g6 (fun r5 hr5 => ?_)
          replace hr5 : r5 = pDiv a1 a2 := hr5.trans (px_dr_0 _ _)
          try rw [← hr5] at h
          exact Prod.mk.inj (Option.some.inj h)
        · refine And.intro (fun hp => absurd hp c4) (fun _ => ?_)
          rcases px_ite h with ⟨c7, h⟩ | ⟨c7, h⟩
          · refine And.intro (fun _ => ?_) (fun hn => absurd c7 hn)
            refine H [((1, 1, 0, 0, []), 1), ((1, 2, 0, 0, []), 1), ((7, 1, 0, 0, []), 1), ((27, 0, 0, 0, []), 1)] 60 _ _ _ (by decide +kernel) ?_
            obtain ⟨g9, h⟩ := px_gd h
            refine And.intro g9 (fun r8 hr8 => ?_)
            replace hr8 : r8 = pRem a1 a2 := hr8.trans (px_dr_1 _ _)
            try rw [← hr8] at h
            exact Prod.mk.inj (Option.some.inj h)
          · refine And.intro (fun hp => absurd hp c7) (fun _ => ?_)
            rcases px_ite h with ⟨c10, h⟩ | ⟨c10, h⟩
            · refine And.intro (fun _ => ?_) (fun hn => absurd c10 hn)
              refine H [((1, 1, 0, 0, []), 1), ((1, 2, 0, 0, []), 1), ((13, 3, 73, 0, []), 3), ((0, 0, 0, 1, []), 1), ((12, 0, 74, 0, []), 3), ((27, 0, 0, 0, []), 1)] 64 _ _ _ (by decide +kernel) ?_
              rcases px_ite h with ⟨c11, h⟩ | ⟨c11, h⟩
              · refine And.intro (fun _ => ?_) (fun hn => absurd c11 hn)
                refine H [((0, 0, 0, 0, []), 1), ((27, 0, 0, 0, []), 1)] 73 _ _ _ (by decide +kernel) ?_
                exact Prod.mk.inj (Option.some.inj h)
              · refine And.intro (fun hp => absurd hp c11) (fun _ => ?_)
                exact Prod.mk.inj (Option.some.inj h)
            · refine And.intro (fun hp => absurd hp c10) (fun _ => ?_)
              rcases px_ite h with ⟨c12, h⟩ | ⟨c12, h⟩
              · refine And.intro (fun _ => ?_) (fun hn => absurd c12 hn)
                refine H [((1, 1, 0, 0, []), 1), ((1, 2, 0, 0, []), 1), ((13, 5, 84, 0, []), 3), ((0, 0, 0, 1, []), 1), ((12, 0, 85, 0, []), 3), ((27, 0, 0, 0, []), 1)] 75 _ _ _ (by decide +kernel) ?_
                rcases px_ite h with ⟨c13, h⟩ | ⟨c13, h⟩
                · refine And.intro (fun _ => ?_) (fun hn => absurd c13 hn)
                  refine H [((0, 0, 0, 0, []), 1), ((27, 0, 0, 0, []), 1)] 84 _ _ _ (by decide +kernel) ?_
                  exact Prod.mk.inj (Option.some.inj h)
                · refine And.intro (fun hp => absurd hp c13) (fun _ => ?_)
                  exact Prod.mk.inj (Option.some.inj h)
              · refine And.intro (fun hp => absurd hp c12) (fun _ => ?_)
                refine H [((1, 1, 0, 0, []), 1), ((1, 2, 0, 0, []), 1), ((13, 1, 95, 0, []), 3), ((0, 0, 0, 1, []), 1), ((12, 0, 96, 0, []), 3), ((27, 0, 0, 0, []), 1)] 86 _ _ _ (by decide +kernel) ?_
                rcases px_ite h with ⟨c14, h⟩ | ⟨c14, h⟩
                · refine And.intro (fun hp => absurd c14 hp) (fun _ => ?_)
                  exact Prod.mk.inj (Option.some.inj h)
                · refine And.intro (fun _ => ?_) (fun hn => absurd c14 hn)
                  refine H [((0, 0, 0, 0, []), 1), ((27, 0, 0, 0, []), 1)] 95 _ _ _ (by decide +kernel) ?_
                  exact Prod.mk.inj (Option.some.inj h)
theorem ok_M_reckon {l : Launch} {a0 a1 a2 : Int} {σ : pS} {v : Int} {σ1 : pS} (h : f_M_reckon a0 a1 a2 σ = some (v, σ1)) : Con l 0 204 [.inl a0, .inl a1, .inl a2] σ v σ1 := Con_mk 3 3 rfl (by decide +kernel) (fun _ H => ok_M_reckon_w H _ _ _ _ h)
theorem ok_M_reckonsTo_84_p63 {l : Launch} {rv : Int} {rσ : pS} {G : Nat → pL → List pV → pS → Prop} (H : px_R l 1 203 rv rσ G) {k_16 : Int → Int → Int → Int → pS → Option (Int × pS)} (hk_16 : ∀ (a2 a3 a4 a5 : Int) (σ : pS), k_16 a2 a3 a4 a5 σ = some (rv, rσ) → G 16 [some (.inr 84), none, some (.inl a2), some (.inl a3), some (.inl a4), some (.inl a5), none, none] [] σ) : ∀ (a2 a3 a4 a5 a6 a7 : Int) (σ : pS), f_M_reckonsTo_84_p63 k_16 a2 a3 a4 a5 a6 a7 σ = some (rv, rσ) → G 63 [some (.inr 84), none, some (.inl a2), some (.inl a3), some (.inl a4), some (.inl a5), some (.inl a6), some (.inl a7)] [] σ := by
  intro a2 a3 a4 a5 a6 a7 σ h
  unfold f_M_reckonsTo_84_p63 at h
  refine H [((2, 0, 0, 0, []), 1), ((17, 84, 108, 0, []), 3), ((1, 3, 0, 0, []), 1), ((1, 6, 0, 0, []), 2), ((14, 1, 78, 0, []), 3), ((1, 7, 0, 0, []), 2), ((12, 0, 85, 0, []), 3), ((20, 108, 260, 0, []), 1), ((1, 3, 0, 0, []), 1), ((0, 0, 0, 1, []), 1), ((6, 0, 0, 0, []), 1), ((3, 3, 0, 0, []), 1), ((12, 0, 230, 0, []), 3), ((12, 0, 16, 0, []), 3), ((29, 6, 0, 0, []), 0), ((29, 7, 0, 0, []), 0)] 63 _ _ _ (by decide +kernel) ?_
  rcases px_ite h with ⟨c8, h⟩ | ⟨c8, h⟩
  · refine And.intro (fun hp => absurd c8 hp) (fun _ => ?_)
    obtain ⟨g11, h⟩ := px_gd h
    refine And.intro g11 ?_
    exact hk_16 _ _ _ _ _ h
  · refine And.intro (fun _ => ?_) (fun hn => absurd c8 hn)
    refine H [((2, 0, 0, 0, []), 1), ((17, 84, 109, 0, []), 3), ((1, 7, 0, 0, []), 2), ((19, 109, 7, 0, []), 1), ((20, 108, 260, 0, []), 1), ((1, 3, 0, 0, []), 1), ((0, 0, 0, 1, []), 1), ((6, 0, 0, 0, []), 1), ((3, 3, 0, 0, []), 1), ((12, 0, 230, 0, []), 3), ((12, 0, 16, 0, []), 3), ((29, 6, 0, 0, []), 0), ((29, 7, 0, 0, []), 0)] 78 _ _ _ (by decide +kernel) ?_
    obtain ⟨g9, h⟩ := px_gd h
    refine And.intro g9 ?_
    obtain ⟨g10, h⟩ := px_gd h
    refine And.intro g10 ?_
    exact hk_16 _ _ _ _ _ h
theorem ok_M_reckonsTo_84_p155 {l : Launch} {rv : Int} {rσ : pS} {G : Nat → pL → List pV → pS → Prop} (H : px_R l 1 203 rv rσ G) {k_16 : Int → Int → Int → Int → pS → Option (Int × pS)} (hk_16 : ∀ (a2 a3 a4 a5 : Int) (σ : pS), k_16 a2 a3 a4 a5 σ = some (rv, rσ) → G 16 [some (.inr 84), none, some (.inl a2), some (.inl a3), some (.inl a4), some (.inl a5), none, none] [] σ) : ∀ (a2 a3 a4 a5 a7 s0 s1 : Int) (σ : pS), f_M_reckonsTo_84_p155 k_16 a2 a3 a4 a5 a7 s0 s1 σ = some (rv, rσ) → G 155 [some (.inr 84), none, some (.inl a2), some (.inl a3), some (.inl a4), some (.inl a5), none, some (.inl a7)] [.inl s0, .inl s1] σ := by
  intro a2 a3 a4 a5 a7 s0 s1 σ h
  unfold f_M_reckonsTo_84_p155 at h
  refine H [((13, 1, 168, 0, []), 3), ((1, 4, 0, 0, []), 2), ((1, 7, 0, 0, []), 2), ((6, 0, 0, 0, []), 1), ((3, 5, 0, 0, []), 2), ((12, 0, 230, 0, []), 3), ((12, 0, 16, 0, []), 3), ((29, 7, 0, 0, []), 0)] 155 _ _ _ (by decide +kernel) ?_
  rcases px_ite h with ⟨c17, h⟩ | ⟨c17, h⟩
  · refine And.intro (fun hp => absurd c17 hp) (fun _ => ?_)
    exact hk_16 _ _ _ _ _ h
  · refine And.intro (fun _ => ?_) (fun hn => absurd c17 hn)
    refine H [((1, 3, 0, 0, []), 1), ((0, 0, 0, 1, []), 1), ((6, 1, 0, 0, []), 1), ((3, 3, 0, 0, []), 1), ((12, 0, 230, 0, []), 3), ((12, 0, 16, 0, []), 3), ((29, 7, 0, 0, []), 0)] 168 _ _ _ (by decide +kernel) ?_
    exact hk_16 _ _ _ _ _ h
theorem ok_M_reckonsTo_84_p135 {l : Launch} {rv : Int} {rσ : pS} {G : Nat → pL → List pV → pS → Prop} (H : px_R l 1 203 rv rσ G) {k_16 : Int → Int → Int → Int → pS → Option (Int × pS)} (hk_16 : ∀ (a2 a3 a4 a5 : Int) (σ : pS), k_16 a2 a3 a4 a5 σ = some (rv, rσ) → G 16 [some (.inr 84), none, some (.inl a2), some (.inl a3), some (.inl a4), some (.inl a5), none, none] [] σ) : ∀ (a2 a3 a4 a5 a6 a7 : Int) (σ : pS), f_M_reckonsTo_84_p135 k_16 a2 a3 a4 a5 a6 a7 σ = some (rv, rσ) → G 135 [some (.inr 84), none, some (.inl a2), some (.inl a3), some (.inl a4), some (.inl a5), some (.inl a6), some (.inl a7)] [] σ := by
  intro a2 a3 a4 a5 a6 a7 σ h
  unfold f_M_reckonsTo_84_p135 at h
  refine H [((2, 0, 0, 0, []), 1), ((17, 84, 108, 0, []), 3), ((1, 3, 0, 0, []), 1), ((0, 0, 0, 1, []), 1), ((6, 1, 0, 0, []), 1), ((19, 108, 260, 0, []), 1), ((1, 6, 0, 0, []), 2), ((0, 0, 0, 12, []), 2), ((13, 1, 154, 0, []), 3), ((0, 0, 0, 1, []), 1), ((12, 0, 155, 0, []), 3), ((29, 6, 0, 0, []), 0)] 135 _ _ _ (by decide +kernel) ?_
  obtain ⟨g15, h⟩ := px_gd h
  refine And.intro g15 ?_
  rcases px_ite h with ⟨c16, h⟩ | ⟨c16, h⟩
  · refine And.intro (fun hp => absurd c16 hp) (fun _ => ?_)
    exact ok_M_reckonsTo_84_p155 H hk_16 _ _ _ _ _ _ _ _ h
  · refine And.intro (fun _ => ?_) (fun hn => absurd c16 hn)
    refine H [((0, 0, 0, 0, []), 1), ((29, 6, 0, 0, []), 0)] 154 _ _ _ (by decide +kernel) ?_
    exact ok_M_reckonsTo_84_p155 H hk_16 _ _ _ _ _ _ _ _ h
theorem ok_M_reckonsTo_84_p203 {l : Launch} {rv : Int} {rσ : pS} {G : Nat → pL → List pV → pS → Prop} (H : px_R l 1 203 rv rσ G) {k_16 : Int → Int → Int → Int → pS → Option (Int × pS)} (hk_16 : ∀ (a2 a3 a4 a5 : Int) (σ : pS), k_16 a2 a3 a4 a5 σ = some (rv, rσ) → G 16 [some (.inr 84), none, some (.inl a2), some (.inl a3), some (.inl a4), some (.inl a5), none, none] [] σ) : ∀ (a2 a3 a4 a5 a6 : Int) (σ : pS), f_M_reckonsTo_84_p203 k_16 a2 a3 a4 a5 a6 σ = some (rv, rσ) → G 203 [some (.inr 84), none, some (.inl a2), some (.inl a3), some (.inl a4), some (.inl a5), some (.inl a6), none] [] σ := by
  intro a2 a3 a4 a5 a6 σ h
  unfold f_M_reckonsTo_84_p203 at h
  refine H [((2, 0, 0, 0, []), 1), ((17, 84, 108, 0, []), 3), ((1, 3, 0, 0, []), 1), ((0, 0, 0, 1, []), 1), ((6, 1, 0, 0, []), 1), ((1, 6, 0, 0, []), 2), ((2, 0, 0, 0, []), 1), ((17, 84, 108, 0, []), 3), ((1, 3, 0, 0, []), 1), ((0, 0, 0, 1, []), 1), ((6, 1, 0, 0, []), 1), ((19, 108, 260, 0, []), 1), ((2, 0, 0, 0, []), 1), ((17, 84, 108, 0, []), 3), ((1, 3, 0, 0, []), 1), ((19, 108, 260, 0, []), 1), ((24, 204, 3, 1, []), 3), ((20, 108, 260, 0, []), 1), ((12, 0, 16, 0, []), 3), ((29, 6, 0, 0, []), 0)] 203 _ _ _ (by decide +kernel) ?_
  obtain ⟨g22, h⟩ := px_gd h
  refine And.intro g22 ?_
  obtain ⟨g23, h⟩ := px_gd h
  refine And.intro g23 ?_
  obtain ⟨⟨vq24, σq24⟩, hq24, h⟩ := px_bind h
  dsimp only at h
  refine Exists.intro 0 (Exists.intro vq24 (Exists.intro σq24 (And.intro (Nat.le_of_ble_eq_true rfl) (And.intro (ok_M_reckon hq24) ?_))))
  obtain ⟨g25, h⟩ := px_gd h
  refine And.intro g25 ?_
  exact hk_16 _ _ _ _ _ h
theorem ok_M_reckonsTo_84_p192 {l : Launch} {rv : Int} {rσ : pS} {G : Nat → pL → List pV → pS → Prop} (H : px_R l 1 203 rv rσ G) {k_16 : Int → Int → Int → Int → pS → Option (Int × pS)} (hk_16 : ∀ (a2 a3 a4 a5 : Int) (σ : pS), k_16 a2 a3 a4 a5 σ = some (rv, rσ) → G 16 [some (.inr 84), none, some (.inl a2), some (.inl a3), some (.inl a4), some (.inl a5), none, none] [] σ) : ∀ (a2 a3 a4 a5 a6 : Int) (σ : pS), f_M_reckonsTo_84_p192 k_16 a2 a3 a4 a5 a6 σ = some (rv, rσ) → G 192 [some (.inr 84), none, some (.inl a2), some (.inl a3), some (.inl a4), some (.inl a5), some (.inl a6), none] [] σ := by
  intro a2 a3 a4 a5 a6 σ h
  unfold f_M_reckonsTo_84_p192 at h
  refine H [((2, 0, 0, 0, []), 1), ((17, 84, 108, 0, []), 3), ((1, 3, 0, 0, []), 1), ((19, 108, 260, 0, []), 1), ((14, 1, 203, 0, []), 3), ((0, 0, 0, 0, []), 1), ((27, 0, 0, 0, []), 1)] 192 _ _ _ (by decide +kernel) ?_
  obtain ⟨g20, h⟩ := px_gd h
  refine And.intro g20 ?_
  rcases px_ite h with ⟨c21, h⟩ | ⟨c21, h⟩
  · refine And.intro (fun hp => absurd c21 hp) (fun _ => ?_)
    exact Prod.mk.inj (Option.some.inj h)
  · refine And.intro (fun _ => ?_) (fun hn => absurd c21 hn)
    exact ok_M_reckonsTo_84_p203 H hk_16 _ _ _ _ _ _ h
theorem ok_M_reckonsTo_84_p16 {l : Launch} {rv : Int} {rσ : pS} {G : Nat → pL → List pV → pS → Prop} (H : px_R l 1 203 rv rσ G) : ∀ (n : Nat) (a2 a3 a4 a5 : Int) (σ : pS), f_M_reckonsTo_84_p16 n a2 a3 a4 a5 σ = some (rv, rσ) → G 16 [some (.inr 84), none, some (.inl a2), some (.inl a3), some (.inl a4), some (.inl a5), none, none] [] σ := by
  intro n
  induction n with
  | zero =>
    intro a2 a3 a4 a5 σ h
    unfold f_M_reckonsTo_84_p16 at h
    cases h
  | succ n ih =>
    intro a2 a3 a4 a5 σ h
    unfold f_M_reckonsTo_84_p16 at h
    refine H [((1, 5, 0, 0, []), 2), ((1, 2, 0, 0, []), 1), ((13, 3, 233, 0, []), 3), ((2, 0, 0, 0, []), 1), ((17, 84, 103, 0, []), 3), ((1, 5, 0, 0, []), 2), ((19, 103, 260, 0, []), 1), ((0, 0, 0, 1048576, []), 2), ((7, 0, 0, 0, []), 1), ((3, 6, 0, 0, []), 2), ((2, 0, 0, 0, []), 1), ((17, 84, 103, 0, []), 3), ((1, 5, 0, 0, []), 2), ((19, 103, 260, 0, []), 1), ((0, 0, 0, 1048576, []), 2), ((7, 1, 0, 0, []), 1), ((3, 7, 0, 0, []), 2), ((1, 5, 0, 0, []), 2), ((0, 0, 0, 1, []), 1), ((6, 0, 0, 0, []), 1), ((3, 5, 0, 0, []), 2), ((1, 6, 0, 0, []), 2), ((14, 0, 63, 0, []), 3), ((1, 6, 0, 0, []), 2), ((0, 0, 0, 1, []), 1), ((13, 1, 93, 0, []), 3)] 16 _ _ _ (by decide +kernel) ?_
    rcases px_ite h with ⟨c2, h⟩ | ⟨c2, h⟩
    · refine And.intro (fun _ => ?_) (fun hn => absurd c2 hn)
      refine H [((2, 0, 0, 0, []), 1), ((17, 84, 108, 0, []), 3), ((0, 0, 0, 0, []), 1), ((19, 108, 260, 0, []), 1), ((27, 0, 0, 0, []), 1)] 233 _ _ _ (by decide +kernel) ?_
      refine And.intro (show (0 : Int) ≤ 0 ∧ (0 : Int) < 260 from by decide) ?_
      exact Prod.mk.inj (Option.some.inj h)
    · refine And.intro (fun hp => absurd hp c2) (fun _ => ?_)
      obtain ⟨g3, h⟩ := px_gd h
      refine And.intro g3 ?_
      refine And.intro (show (1048576 : Int) ≠ 0 from by decide) (fun r4 hr4 => ?_)
      replace hr4 : r4 = pDiv (σ 103 a5.toNat) 1048576 := hr4.trans (px_dr_0 _ _)
      try rw [← hr4] at h
      obtain ⟨g5, h⟩ := px_gd h
      refine And.intro g5 ?_
      refine And.intro (show (1048576 : Int) ≠ 0 from by decide) (fun r6 hr6 => ?_)
      replace hr6 : r6 = pRem (σ 103 a5.toNat) 1048576 := hr6.trans (px_dr_1 _ _)
      try rw [← hr6] at h
      rcases px_ite h with ⟨c7, h⟩ | ⟨c7, h⟩
      · refine And.intro (fun _ => ?_) (fun hn => absurd c7 hn)
        exact ok_M_reckonsTo_84_p63 H ih _ _ _ _ _ _ _ h
      · refine And.intro (fun hp => absurd hp c7) (fun _ => ?_)
        rcases px_ite h with ⟨c12, h⟩ | ⟨c12, h⟩
        · refine And.intro (fun hp => absurd c12 hp) (fun _ => ?_)
          exact ok_M_reckonsTo_84_p63 H ih _ _ _ _ _ _ _ h
        · refine And.intro (fun _ => ?_) (fun hn => absurd c12 hn)
          refine H [((1, 6, 0, 0, []), 2), ((0, 0, 0, 10, []), 2), ((13, 1, 121, 0, []), 3), ((2, 0, 0, 0, []), 1), ((17, 84, 108, 0, []), 3), ((1, 3, 0, 0, []), 1), ((0, 0, 0, 1, []), 1), ((6, 1, 0, 0, []), 1), ((0, 0, 0, 1, []), 1), ((2, 0, 0, 0, []), 1), ((17, 84, 108, 0, []), 3), ((1, 3, 0, 0, []), 1), ((0, 0, 0, 1, []), 1), ((6, 1, 0, 0, []), 1), ((19, 108, 260, 0, []), 1), ((6, 1, 0, 0, []), 1), ((20, 108, 260, 0, []), 1), ((12, 0, 230, 0, []), 3), ((12, 0, 16, 0, []), 3), ((29, 6, 0, 0, []), 0), ((29, 7, 0, 0, []), 0)] 93 _ _ _ (by decide +kernel) ?_
          rcases px_ite h with ⟨c13, h⟩ | ⟨c13, h⟩
          · refine And.intro (fun hp => absurd c13 hp) (fun _ => ?_)
            obtain ⟨g27, h⟩ := px_gd h
            refine And.intro g27 ?_
            obtain ⟨g28, h⟩ := px_gd h
            refine And.intro g28 ?_
            exact ih _ _ _ _ _ h
          · refine And.intro (fun _ => ?_) (fun hn => absurd c13 hn)
            refine H [((1, 6, 0, 0, []), 2), ((0, 0, 0, 11, []), 2), ((13, 0, 135, 0, []), 3), ((1, 6, 0, 0, []), 2), ((0, 0, 0, 12, []), 2), ((13, 1, 175, 0, []), 3)] 121 _ _ _ (by decide +kernel) ?_
            rcases px_ite h with ⟨c14, h⟩ | ⟨c14, h⟩
            · refine And.intro (fun _ => ?_) (fun hn => absurd c14 hn)
              exact ok_M_reckonsTo_84_p135 H ih _ _ _ _ _ _ _ h
            · refine And.intro (fun hp => absurd hp c14) (fun _ => ?_)
              rcases px_ite h with ⟨c18, h⟩ | ⟨c18, h⟩
              · refine And.intro (fun hp => absurd c18 hp) (fun _ => ?_)
                exact ok_M_reckonsTo_84_p135 H ih _ _ _ _ _ _ _ h
              · refine And.intro (fun _ => ?_) (fun hn => absurd c18 hn)
                refine H [((1, 3, 0, 0, []), 1), ((0, 0, 0, 1, []), 1), ((6, 1, 0, 0, []), 1), ((3, 3, 0, 0, []), 1), ((1, 6, 0, 0, []), 2), ((0, 0, 0, 5, []), 1), ((13, 0, 192, 0, []), 3), ((1, 6, 0, 0, []), 2), ((0, 0, 0, 6, []), 2), ((13, 1, 203, 0, []), 3), ((29, 7, 0, 0, []), 0)] 175 _ _ _ (by decide +kernel) ?_
                rcases px_ite h with ⟨c19, h⟩ | ⟨c19, h⟩
                · refine And.intro (fun _ => ?_) (fun hn => absurd c19 hn)
                  refine H [((29, 7, 0, 0, []), 0)] 192 _ _ _ (by decide +kernel) ?_
                  exact ok_M_reckonsTo_84_p192 H ih _ _ _ _ _ _ h
                · refine And.intro (fun hp => absurd hp c19) (fun _ => ?_)
                  rcases px_ite h with ⟨c26, h⟩ | ⟨c26, h⟩
                  · refine And.intro (fun hp => absurd c26 hp) (fun _ => ?_)
                    exact ok_M_reckonsTo_84_p192 H ih _ _ _ _ _ _ h
                  · refine And.intro (fun _ => ?_) (fun hn => absurd c26 hn)
                    refine H [((29, 7, 0, 0, []), 0)] 203 _ _ _ (by decide +kernel) ?_
                    exact ok_M_reckonsTo_84_p203 H ih _ _ _ _ _ _ h
theorem ok_M_reckonsTo_84_w {l : Launch} {rv : Int} {rσ : pS} {G : Nat → pL → List pV → pS → Prop} (H : px_R l 1 203 rv rσ G) : ∀ (a1 a2 : Int) (σ : pS), f_M_reckonsTo_84 a1 a2 σ = some (rv, rσ) → G 0 [some (.inr 84), some (.inl a1), some (.inl a2), none, none, none, none, none] [] σ := by
  intro a1 a2 σ h
  unfold f_M_reckonsTo_84 at h
  refine H [((0, 0, 0, 0, []), 1), ((3, 3, 0, 0, []), 1), ((0, 0, 0, 260, []), 3), ((1, 1, 0, 0, []), 1), ((0, 0, 0, 260, []), 3), ((7, 0, 0, 0, []), 1), ((6, 2, 0, 0, []), 1), ((3, 4, 0, 0, []), 2), ((1, 1, 0, 0, []), 1), ((3, 5, 0, 0, []), 2), ((29, 1, 0, 0, []), 0)] 0 _ _ _ (by decide +kernel) ?_
  refine And.intro (show (260 : Int) ≠ 0 from by decide) (fun r1 hr1 => ?_)
  replace hr1 : r1 = pDiv a1 260 := hr1.trans (px_dr_0 _ _)
  try rw [← hr1] at h
  exact ok_M_reckonsTo_84_p16 H _ _ _ _ _ _ h
theorem ok_M_reckonsTo_84 {l : Launch} {a1 a2 : Int} {σ : pS} {v : Int} {σ1 : pS} (h : f_M_reckonsTo_84 a1 a2 σ = some (v, σ1)) : Con l 1 203 [.inr 84, .inl a1, .inl a2] σ v σ1 := Con_mk 3 8 rfl (by decide +kernel) (fun _ H => ok_M_reckonsTo_84_w H _ _ _ h)
theorem ok_M_isHeldBack_84_p2 {l : Launch} {rv : Int} {rσ : pS} {G : Nat → pL → List pV → pS → Prop} (H : px_R l 2 208 rv rσ G) : ∀ (n : Nat) (a1 : Int) (σ : pS), f_M_isHeldBack_84_p2 n a1 σ = some (rv, rσ) → G 2 [some (.inr 84), some (.inl a1)] [] σ := by
  intro n
  induction n with
  | zero =>
    intro a1 σ h
    unfold f_M_isHeldBack_84_p2 at h
    cases h
  | succ n ih =>
    intro a1 σ h
    unfold f_M_isHeldBack_84_p2 at h
    refine H [((1, 1, 0, 0, []), 1), ((2, 0, 0, 0, []), 1), ((16, 84, 27, 0, []), 3), ((13, 3, 49, 0, []), 3), ((2, 0, 0, 0, []), 1), ((17, 84, 104, 0, []), 3), ((1, 1, 0, 0, []), 1), ((19, 104, 16, 0, []), 1), ((0, 0, 0, 120, []), 2), ((13, 1, 43, 0, []), 3), ((2, 0, 0, 0, []), 1), ((2, 0, 0, 0, []), 1), ((17, 84, 106, 0, []), 3), ((1, 1, 0, 0, []), 1), ((19, 106, 16, 0, []), 1), ((2, 0, 0, 0, []), 1), ((17, 84, 107, 0, []), 3), ((1, 1, 0, 0, []), 1), ((19, 107, 16, 0, []), 1), ((23, 203, 2, 1, [(0, 84)]), 3), ((0, 0, 0, 1, []), 1), ((13, 1, 43, 0, []), 3), ((0, 0, 0, 1, []), 1), ((27, 1, 0, 0, []), 1)] 2 _ _ _ (by decide +kernel) ?_
    rcases px_ite h with ⟨c1, h⟩ | ⟨c1, h⟩
    · refine And.intro (fun _ => ?_) (fun hn => absurd c1 hn)
      refine H [((0, 0, 0, 0, []), 1), ((27, 1, 0, 0, []), 1)] 49 _ _ _ (by decide +kernel) ?_
      refine And.intro (show (0 : Int) ≤ 0 ∧ (0 : Int) ≤ 1 from by decide) ?_
      exact Prod.mk.inj (Option.some.inj h)
    · refine And.intro (fun hp => absurd hp c1) (fun _ => ?_)
      obtain ⟨g2, h⟩ := px_gd h
      refine And.intro g2 ?_
      rcases px_ite h with ⟨c3, h⟩ | ⟨c3, h⟩
      · refine And.intro (fun hp => absurd c3 hp) (fun _ => ?_)
        obtain ⟨g4, h⟩ := px_gd h
        refine And.intro g4 ?_
        obtain ⟨g5, h⟩ := px_gd h
        refine And.intro g5 ?_
        obtain ⟨⟨vq6, σq6⟩, hq6, h⟩ := px_bind h
        dsimp only at h
        refine Exists.intro 1 (Exists.intro vq6 (Exists.intro σq6 (And.intro (Nat.le_of_ble_eq_true rfl) (And.intro (ok_M_reckonsTo_84 hq6) ?_))))
        rcases px_ite h with ⟨c7, h⟩ | ⟨c7, h⟩
        · refine And.intro (fun hp => absurd c7 hp) (fun _ => ?_)
          refine And.intro (show (0 : Int) ≤ 1 ∧ (1 : Int) ≤ 1 from by decide) ?_
          exact Prod.mk.inj (Option.some.inj h)
        · refine And.intro (fun _ => ?_) (fun hn => absurd c7 hn)
          refine H [((5, 1, 0, 1, []), 3), ((12, 0, 2, 0, []), 3)] 43 _ _ _ (by decide +kernel) ?_
          exact ih _ _ h
      · refine And.intro (fun _ => ?_) (fun hn => absurd c3 hn)
        refine H [((5, 1, 0, 1, []), 3), ((12, 0, 2, 0, []), 3)] 43 _ _ _ (by decide +kernel) ?_
        exact ih _ _ h
theorem ok_M_isHeldBack_84_w {l : Launch} {rv : Int} {rσ : pS} {G : Nat → pL → List pV → pS → Prop} (H : px_R l 2 208 rv rσ G) : ∀ (σ : pS), f_M_isHeldBack_84  σ = some (rv, rσ) → G 0 [some (.inr 84), none] [] σ := by
  intro  σ h
  unfold f_M_isHeldBack_84 at h
  refine H [((0, 0, 0, 0, []), 1), ((3, 1, 0, 0, []), 1)] 0 _ _ _ (by decide +kernel) ?_
  exact ok_M_isHeldBack_84_p2 H _ _ _ h
theorem ok_M_isHeldBack_84 {l : Launch} {σ : pS} {v : Int} {σ1 : pS} (h : f_M_isHeldBack_84  σ = some (v, σ1)) : Con l 2 208 [.inr 84] σ v σ1 := Con_mk 1 2 rfl (by decide +kernel) (fun _ H => ok_M_isHeldBack_84_w H  _ h)
theorem ok_M_retires_84_p68 {l : Launch} {rv : Int} {rσ : pS} {G : Nat → pL → List pV → pS → Prop} (H : px_R l 3 205 rv rσ G) : ∀ (n : Nat) (a2 a4 : Int) (σ : pS), f_M_retires_84_p68 n a2 a4 σ = some (rv, rσ) → G 68 [some (.inr 84), none, some (.inl a2), none, some (.inl a4), none] [] σ := by
  intro n
  induction n with
  | zero =>
    intro a2 a4 σ h
    unfold f_M_retires_84_p68 at h
    cases h
  | succ n ih =>
    intro a2 a4 σ h
    unfold f_M_retires_84_p68 at h
    refine H [((1, 4, 0, 0, []), 2), ((2, 0, 0, 0, []), 1), ((17, 84, 93, 0, []), 3), ((1, 2, 0, 0, []), 1), ((19, 93, 20, 0, []), 1), ((13, 3, 135, 0, []), 3), ((2, 0, 0, 0, []), 1), ((17, 84, 121, 0, []), 3), ((1, 2, 0, 0, []), 1), ((19, 121, 20, 0, []), 1), ((1, 4, 0, 0, []), 2), ((6, 0, 0, 0, []), 1), ((0, 0, 0, 63, []), 2), ((6, 3, 0, 0, []), 1), ((3, 5, 0, 0, []), 2), ((2, 0, 0, 0, []), 1), ((17, 84, 125, 0, []), 3), ((0, 0, 0, 4, []), 1), ((1, 2, 0, 0, []), 1), ((6, 2, 0, 0, []), 1), ((1, 4, 0, 0, []), 2), ((6, 0, 0, 0, []), 1), ((2, 0, 0, 0, []), 1), ((17, 84, 128, 0, []), 3), ((1, 5, 0, 0, []), 2), ((19, 128, 64, 0, []), 1), ((20, 125, 80, 0, []), 1), ((2, 0, 0, 0, []), 1), ((17, 84, 128, 0, []), 3), ((1, 5, 0, 0, []), 2), ((2, 0, 0, 0, []), 1), ((17, 84, 120, 0, []), 3), ((1, 2, 0, 0, []), 1), ((19, 120, 20, 0, []), 1), ((1, 4, 0, 0, []), 2), ((24, 185, 2, 1, []), 3), ((20, 128, 64, 0, []), 1), ((5, 4, 0, 1, []), 3), ((12, 0, 68, 0, []), 3), ((29, 5, 0, 0, []), 0)] 68 _ _ _ (by decide +kernel) ?_
    obtain ⟨g8, h⟩ := px_gd h
    refine And.intro g8 ?_
    rcases px_ite h with ⟨c9, h⟩ | ⟨c9, h⟩
    · refine And.intro (fun _ => ?_) (fun hn => absurd c9 hn)
      refine H [((2, 0, 0, 0, []), 1), ((17, 84, 126, 0, []), 3), ((1, 2, 0, 0, []), 1), ((0, 0, 0, 1, []), 1), ((20, 126, 20, 1, []), 1), ((28, 0, 0, 0, []), 1)] 135 _ _ _ (by decide +kernel) ?_
      obtain ⟨g10, h⟩ := px_gd h
      refine And.intro g10 ?_
      refine And.intro (show (0 : Int) ≤ 1 ∧ (1 : Int) ≤ 1 from by decide) ?_
      exact (Prod.mk.inj (Option.some.inj h)).2
    · refine And.intro (fun hp => absurd hp c9) (fun _ => ?_)
      obtain ⟨g11, h⟩ := px_gd h
      refine And.intro g11 ?_
      obtain ⟨g12, h⟩ := px_gd h
      refine And.intro g12 ?_
      obtain ⟨g13, h⟩ := px_gd h
      refine And.intro g13 ?_
      obtain ⟨g14, h⟩ := px_gd h
      refine And.intro g14 ?_
      obtain ⟨⟨vq15, σq15⟩, hq15, h⟩ := px_bind h
      dsimp only at h
      refine Exists.intro 0 (Exists.intro vq15 (Exists.intro σq15 (And.intro (Nat.le_of_ble_eq_true rfl) (And.intro (ok_M_byteOf hq15) ?_))))
      obtain ⟨g16, h⟩ := px_gd h
      refine And.intro g16 ?_
      exact ih _ _ _ h
theorem ok_M_retires_84_p46 {l : Launch} {rv : Int} {rσ : pS} {G : Nat → pL → List pV → pS → Prop} (H : px_R l 3 205 rv rσ G) : ∀ (a2 : Int) (σ : pS), f_M_retires_84_p46 a2 σ = some (rv, rσ) → G 46 [some (.inr 84), none, some (.inl a2), none, none, none] [] σ := by
  intro a2 σ h
  unfold f_M_retires_84_p46 at h
  refine H [((2, 0, 0, 0, []), 1), ((1, 2, 0, 0, []), 1), ((0, 0, 0, 1, []), 1), ((6, 0, 0, 0, []), 1), ((23, 196, 1, 0, [(0, 84)]), 3), ((2, 0, 0, 0, []), 1), ((17, 84, 132, 0, []), 3), ((1, 2, 0, 0, []), 1), ((2, 0, 0, 0, []), 1), ((17, 84, 121, 0, []), 3), ((1, 2, 0, 0, []), 1), ((19, 121, 20, 0, []), 1), ((20, 132, 20, 0, []), 1), ((0, 0, 0, 0, []), 1), ((3, 4, 0, 0, []), 2)] 46 _ _ _ (by decide +kernel) ?_
  obtain ⟨⟨vq5, σq5⟩, hq5, h⟩ := px_bind h
  dsimp only at h
  refine Exists.intro 0 (Exists.intro vq5 (Exists.intro σq5 (And.intro (Nat.le_of_ble_eq_true rfl) (And.intro (ok_M_undoesTo_84 hq5) ?_))))
  obtain ⟨g6, h⟩ := px_gd h
  refine And.intro g6 ?_
  obtain ⟨g7, h⟩ := px_gd h
  refine And.intro g7 ?_
  exact ok_M_retires_84_p68 H _ _ _ _ h
theorem ok_M_retires_84_w {l : Launch} {rv : Int} {rσ : pS} {G : Nat → pL → List pV → pS → Prop} (H : px_R l 3 205 rv rσ G) : ∀ (a1 : Int) (σ : pS), f_M_retires_84 a1 σ = some (rv, rσ) → G 0 [some (.inr 84), some (.inl a1), none, none, none, none] [] σ := by
  intro a1 σ h
  unfold f_M_retires_84 at h
  refine H [((2, 0, 0, 0, []), 1), ((23, 206, 0, 1, [(0, 84)]), 3), ((3, 2, 0, 0, []), 1), ((1, 2, 0, 0, []), 1), ((0, 0, 0, (-1), []), 1), ((13, 1, 11, 0, []), 3), ((28, 0, 0, 0, []), 1)] 0 _ _ _ (by decide +kernel) ?_
  obtain ⟨⟨vq1, σq1⟩, hq1, h⟩ := px_bind h
  dsimp only at h
  refine Exists.intro 0 (Exists.intro vq1 (Exists.intro σq1 (And.intro (Nat.le_of_ble_eq_true rfl) (And.intro (ok_M_oldestToRetire_84 hq1) ?_))))
  rcases px_ite h with ⟨c2, h⟩ | ⟨c2, h⟩
  · refine And.intro (fun hp => absurd c2 hp) (fun _ => ?_)
    exact (Prod.mk.inj (Option.some.inj h)).2
  · refine And.intro (fun _ => ?_) (fun hn => absurd c2 hn)
    refine H [((2, 0, 0, 0, []), 1), ((1, 2, 0, 0, []), 1), ((23, 207, 1, 1, [(0, 84)]), 3), ((3, 3, 0, 0, []), 1), ((1, 3, 0, 0, []), 1), ((14, 1, 46, 0, []), 3), ((2, 0, 0, 0, []), 1), ((1, 2, 0, 0, []), 1), ((1, 1, 0, 0, []), 1), ((0, 0, 0, 0, []), 1), ((23, 201, 3, 0, [(0, 84)]), 3), ((2, 0, 0, 0, []), 1), ((23, 208, 0, 1, [(0, 84)]), 3), ((14, 0, 36, 0, []), 3), ((28, 0, 0, 0, []), 1)] 11 _ _ _ (by decide +kernel) ?_
    obtain ⟨⟨vq3, σq3⟩, hq3, h⟩ := px_bind h
    dsimp only at h
    refine Exists.intro 0 (Exists.intro vq3 (Exists.intro σq3 (And.intro (Nat.le_of_ble_eq_true rfl) (And.intro (ok_M_areAllDone_84 hq3) ?_))))
    rcases px_ite h with ⟨c4, h⟩ | ⟨c4, h⟩
    · refine And.intro (fun hp => absurd c4 hp) (fun _ => ?_)
      obtain ⟨⟨vq17, σq17⟩, hq17, h⟩ := px_bind h
      dsimp only at h
      refine Exists.intro 0 (Exists.intro vq17 (Exists.intro σq17 (And.intro (Nat.le_of_ble_eq_true rfl) (And.intro (ok_M_feels_84 hq17) ?_))))
      obtain ⟨⟨vq18, σq18⟩, hq18, h⟩ := px_bind h
      dsimp only at h
      refine Exists.intro 2 (Exists.intro vq18 (Exists.intro σq18 (And.intro (Nat.le_of_ble_eq_true rfl) (And.intro (ok_M_isHeldBack_84 hq18) ?_))))
      rcases px_ite h with ⟨c19, h⟩ | ⟨c19, h⟩
      · refine And.intro (fun _ => ?_) (fun hn => absurd c19 hn)
        refine H [((2, 0, 0, 0, []), 1), ((2, 0, 0, 0, []), 1), ((16, 84, 66, 0, []), 3), ((0, 0, 0, 1, []), 1), ((6, 0, 0, 0, []), 1), ((18, 84, 66, 0, []), 3), ((29, 1, 0, 0, []), 0), ((29, 3, 0, 0, []), 0)] 36 _ _ _ (by decide +kernel) ?_
        exact ok_M_retires_84_p46 H _ _ h
      · refine And.intro (fun hp => absurd hp c19) (fun _ => ?_)
        exact (Prod.mk.inj (Option.some.inj h)).2
    · refine And.intro (fun _ => ?_) (fun hn => absurd c4 hn)
      refine H [((29, 1, 0, 0, []), 0), ((29, 3, 0, 0, []), 0)] 46 _ _ _ (by decide +kernel) ?_
      exact ok_M_retires_84_p46 H _ _ h
theorem ok_M_retires_84 {l : Launch} {a1 : Int} {σ : pS} {v : Int} {σ1 : pS} (h : f_M_retires_84 a1 σ = some (v, σ1)) : Con l 3 205 [.inr 84, .inl a1] σ v σ1 := Con_mk 2 6 rfl (by decide +kernel) (fun _ H => ok_M_retires_84_w H _ _ h)
theorem ok_M_areSourcesDone_84_p27 {l : Launch} {rv : Int} {rσ : pS} {G : Nat → pL → List pV → pS → Prop} (H : px_R l 2 197 rv rσ G) {k_2 : Int → Int → pS → Option (Int × pS)} (hk_2 : ∀ (a1 a2 : Int) (σ : pS), k_2 a1 a2 σ = some (rv, rσ) → G 2 [some (.inr 84), some (.inl a1), some (.inl a2), none] [] σ) : ∀ (a1 a2 s0 : Int) (σ : pS), f_M_areSourcesDone_84_p27 k_2 a1 a2 s0 σ = some (rv, rσ) → G 27 [some (.inr 84), some (.inl a1), some (.inl a2), none] [.inl s0] σ := by
  intro a1 a2 s0 σ h
  unfold f_M_areSourcesDone_84_p27 at h
  refine H [((3, 3, 0, 0, []), 1), ((1, 3, 0, 0, []), 1), ((0, 0, 0, (-1), []), 1), ((13, 0, 45, 0, []), 3), ((2, 0, 0, 0, []), 1), ((17, 84, 118, 0, []), 3), ((1, 3, 0, 0, []), 1), ((19, 118, 20, 0, []), 1), ((0, 0, 0, 2, []), 1), ((13, 0, 45, 0, []), 3), ((0, 0, 0, 0, []), 1), ((27, 1, 0, 0, []), 1)] 27 _ _ _ (by decide +kernel) ?_
  rcases px_ite h with ⟨c4, h⟩ | ⟨c4, h⟩
  · refine And.intro (fun _ => ?_) (fun hn => absurd c4 hn)
    refine H [((5, 2, 0, 1, []), 3), ((12, 0, 2, 0, []), 3), ((29, 3, 0, 0, []), 0)] 45 _ _ _ (by decide +kernel) ?_
    exact hk_2 _ _ _ h
  · refine And.intro (fun hp => absurd hp c4) (fun _ => ?_)
    obtain ⟨g5, h⟩ := px_gd h
    refine And.intro g5 ?_
    rcases px_ite h with ⟨c6, h⟩ | ⟨c6, h⟩
    · refine And.intro (fun _ => ?_) (fun hn => absurd c6 hn)
      refine H [((5, 2, 0, 1, []), 3), ((12, 0, 2, 0, []), 3), ((29, 3, 0, 0, []), 0)] 45 _ _ _ (by decide +kernel) ?_
      exact hk_2 _ _ _ h
    · refine And.intro (fun hp => absurd hp c6) (fun _ => ?_)
      refine And.intro (show (0 : Int) ≤ 0 ∧ (0 : Int) ≤ 1 from by decide) ?_
      exact Prod.mk.inj (Option.some.inj h)
theorem ok_M_areSourcesDone_84_p2 {l : Launch} {rv : Int} {rσ : pS} {G : Nat → pL → List pV → pS → Prop} (H : px_R l 2 197 rv rσ G) : ∀ (n : Nat) (a1 a2 : Int) (σ : pS), f_M_areSourcesDone_84_p2 n a1 a2 σ = some (rv, rσ) → G 2 [some (.inr 84), some (.inl a1), some (.inl a2), none] [] σ := by
  intro n
  induction n with
  | zero =>
    intro a1 a2 σ h
    unfold f_M_areSourcesDone_84_p2 at h
    cases h
  | succ n ih =>
    intro a1 a2 σ h
    unfold f_M_areSourcesDone_84_p2 at h
    refine H [((1, 2, 0, 0, []), 1), ((0, 0, 0, 8, []), 2), ((13, 3, 51, 0, []), 3), ((2, 0, 0, 0, []), 1), ((1, 1, 0, 0, []), 1), ((1, 2, 0, 0, []), 1), ((23, 172, 2, 1, [(0, 84)]), 3), ((14, 0, 26, 0, []), 3), ((2, 0, 0, 0, []), 1), ((1, 1, 0, 0, []), 1), ((1, 2, 0, 0, []), 1), ((23, 173, 2, 1, [(0, 84)]), 3), ((12, 0, 27, 0, []), 3)] 2 _ _ _ (by decide +kernel) ?_
    rcases px_ite h with ⟨c1, h⟩ | ⟨c1, h⟩
    · refine And.intro (fun _ => ?_) (fun hn => absurd c1 hn)
      refine H [((0, 0, 0, 1, []), 1), ((27, 1, 0, 0, []), 1)] 51 _ _ _ (by decide +kernel) ?_
      refine And.intro (show (0 : Int) ≤ 1 ∧ (1 : Int) ≤ 1 from by decide) ?_
      exact Prod.mk.inj (Option.some.inj h)
    · refine And.intro (fun hp => absurd hp c1) (fun _ => ?_)
      obtain ⟨⟨vq2, σq2⟩, hq2, h⟩ := px_bind h
      dsimp only at h
      refine Exists.intro 0 (Exists.intro vq2 (Exists.intro σq2 (And.intro (Nat.le_of_ble_eq_true rfl) (And.intro (ok_M_doesRead_84 hq2) ?_))))
      rcases px_ite h with ⟨c3, h⟩ | ⟨c3, h⟩
      · refine And.intro (fun _ => ?_) (fun hn => absurd c3 hn)
        refine H [((0, 0, 0, (-1), []), 1)] 26 _ _ _ (by decide +kernel) ?_
        exact ok_M_areSourcesDone_84_p27 H ih _ _ _ _ h
      · refine And.intro (fun hp => absurd hp c3) (fun _ => ?_)
        obtain ⟨⟨vq7, σq7⟩, hq7, h⟩ := px_bind h
        dsimp only at h
        refine Exists.intro 1 (Exists.intro vq7 (Exists.intro σq7 (And.intro (Nat.le_of_ble_eq_true rfl) (And.intro (ok_M_giverOf_84 hq7) ?_))))
        exact ok_M_areSourcesDone_84_p27 H ih _ _ _ _ h
theorem ok_M_areSourcesDone_84_w {l : Launch} {rv : Int} {rσ : pS} {G : Nat → pL → List pV → pS → Prop} (H : px_R l 2 197 rv rσ G) : ∀ (a1 : Int) (σ : pS), f_M_areSourcesDone_84 a1 σ = some (rv, rσ) → G 0 [some (.inr 84), some (.inl a1), none, none] [] σ := by
  intro a1 σ h
  unfold f_M_areSourcesDone_84 at h
  refine H [((0, 0, 0, 0, []), 1), ((3, 2, 0, 0, []), 1)] 0 _ _ _ (by decide +kernel) ?_
  exact ok_M_areSourcesDone_84_p2 H _ _ _ _ h
theorem ok_M_areSourcesDone_84 {l : Launch} {a1 : Int} {σ : pS} {v : Int} {σ1 : pS} (h : f_M_areSourcesDone_84 a1 σ = some (v, σ1)) : Con l 2 197 [.inr 84, .inl a1] σ v σ1 := Con_mk 2 4 rfl (by decide +kernel) (fun _ H => ok_M_areSourcesDone_84_w H _ _ h)
theorem ok_M_areStoresDone_84_p2 {l : Launch} {rv : Int} {rσ : pS} {G : Nat → pL → List pV → pS → Prop} (H : px_R l 0 199 rv rσ G) : ∀ (n : Nat) (a1 a2 : Int) (σ : pS), f_M_areStoresDone_84_p2 n a1 a2 σ = some (rv, rσ) → G 2 [some (.inr 84), some (.inl a1), some (.inl a2)] [] σ := by
  intro n
  induction n with
  | zero =>
    intro a1 a2 σ h
    unfold f_M_areStoresDone_84_p2 at h
    cases h
  | succ n ih =>
    intro a1 a2 σ h
    unfold f_M_areStoresDone_84_p2 at h
    refine H [((1, 2, 0, 0, []), 1), ((1, 1, 0, 0, []), 1), ((13, 3, 35, 0, []), 3), ((2, 0, 0, 0, []), 1), ((17, 84, 88, 0, []), 3), ((1, 2, 0, 0, []), 1), ((19, 88, 20, 0, []), 1), ((0, 0, 0, 3, []), 1), ((13, 1, 29, 0, []), 3), ((2, 0, 0, 0, []), 1), ((17, 84, 118, 0, []), 3), ((1, 2, 0, 0, []), 1), ((19, 118, 20, 0, []), 1), ((0, 0, 0, 2, []), 1), ((13, 0, 29, 0, []), 3), ((0, 0, 0, 0, []), 1), ((27, 1, 0, 0, []), 1)] 2 _ _ _ (by decide +kernel) ?_
    rcases px_ite h with ⟨c1, h⟩ | ⟨c1, h⟩
    · refine And.intro (fun _ => ?_) (fun hn => absurd c1 hn)
      refine H [((0, 0, 0, 1, []), 1), ((27, 1, 0, 0, []), 1)] 35 _ _ _ (by decide +kernel) ?_
      refine And.intro (show (0 : Int) ≤ 1 ∧ (1 : Int) ≤ 1 from by decide) ?_
      exact Prod.mk.inj (Option.some.inj h)
    · refine And.intro (fun hp => absurd hp c1) (fun _ => ?_)
      obtain ⟨g2, h⟩ := px_gd h
      refine And.intro g2 ?_
      rcases px_ite h with ⟨c3, h⟩ | ⟨c3, h⟩
      · refine And.intro (fun hp => absurd c3 hp) (fun _ => ?_)
        obtain ⟨g4, h⟩ := px_gd h
        refine And.intro g4 ?_
        rcases px_ite h with ⟨c5, h⟩ | ⟨c5, h⟩
        · refine And.intro (fun _ => ?_) (fun hn => absurd c5 hn)
          refine H [((5, 2, 0, 1, []), 3), ((12, 0, 2, 0, []), 3)] 29 _ _ _ (by decide +kernel) ?_
          exact ih _ _ _ h
        · refine And.intro (fun hp => absurd hp c5) (fun _ => ?_)
          refine And.intro (show (0 : Int) ≤ 0 ∧ (0 : Int) ≤ 1 from by decide) ?_
          exact Prod.mk.inj (Option.some.inj h)
      · refine And.intro (fun _ => ?_) (fun hn => absurd c3 hn)
        refine H [((5, 2, 0, 1, []), 3), ((12, 0, 2, 0, []), 3)] 29 _ _ _ (by decide +kernel) ?_
        exact ih _ _ _ h
theorem ok_M_areStoresDone_84_w {l : Launch} {rv : Int} {rσ : pS} {G : Nat → pL → List pV → pS → Prop} (H : px_R l 0 199 rv rσ G) : ∀ (a1 : Int) (σ : pS), f_M_areStoresDone_84 a1 σ = some (rv, rσ) → G 0 [some (.inr 84), some (.inl a1), none] [] σ := by
  intro a1 σ h
  unfold f_M_areStoresDone_84 at h
  refine H [((0, 0, 0, 0, []), 1), ((3, 2, 0, 0, []), 1)] 0 _ _ _ (by decide +kernel) ?_
  exact ok_M_areStoresDone_84_p2 H _ _ _ _ h
theorem ok_M_areStoresDone_84 {l : Launch} {a1 : Int} {σ : pS} {v : Int} {σ1 : pS} (h : f_M_areStoresDone_84 a1 σ = some (v, σ1)) : Con l 0 199 [.inr 84, .inl a1] σ v σ1 := Con_mk 2 3 rfl (by decide +kernel) (fun _ H => ok_M_areStoresDone_84_w H _ _ h)
