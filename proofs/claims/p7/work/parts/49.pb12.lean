theorem ok_M_reckoned_w {l : Launch} {rv : Int} {rσ : pS} {G : Nat → pL → List pV → pS → Prop} (H : px_R l 0 181 rv rσ G) : ∀ (a0 a1 a2 : Int) (σ : pS), f_M_reckoned a0 a1 a2 σ = some (rv, rσ) → G 0 [some (.inl a0), some (.inl a1), some (.inl a2)] [] σ := by
  intro a0 a1 a2 σ h
  unfold f_M_reckoned at h
  refine H [((1, 0, 0, 0, []), 1), ((15, 0, 72, 0, [(38, 64), (42, 60), (43, 52), (45, 56), (94, 68)]), 51)] 0 _ _ _ (by decide +kernel) ?_
  rcases px_ite h with ⟨c1, h⟩ | ⟨c1, h⟩
  · refine And.intro (fun _ => ?_) (fun hn => absurd c1 hn)
    refine H [((1, 1, 0, 0, []), 1), ((1, 2, 0, 0, []), 1), ((6, 3, 0, 0, []), 1), ((27, 0, 0, 0, []), 1)] 64 _ _ _ (by decide +kernel) ?_
    exact Prod.mk.inj (Option.some.inj h)
  · refine And.intro (fun hp => absurd hp c1) (fun _ => ?_)
    rcases px_ite h with ⟨c2, h⟩ | ⟨c2, h⟩
    · refine And.intro (fun _ => ?_) (fun hn => absurd c2 hn)
      refine H [((1, 1, 0, 0, []), 1), ((1, 2, 0, 0, []), 1), ((6, 2, 0, 0, []), 1), ((27, 0, 0, 0, []), 1)] 60 _ _ _ (by decide +kernel) ?_
      exact Prod.mk.inj (Option.some.inj h)
    · refine And.intro (fun hp => absurd hp c2) (fun _ => ?_)
      rcases px_ite h with ⟨c3, h⟩ | ⟨c3, h⟩
      · refine And.intro (fun _ => ?_) (fun hn => absurd c3 hn)
        refine H [((1, 1, 0, 0, []), 1), ((1, 2, 0, 0, []), 1), ((6, 0, 0, 0, []), 1), ((27, 0, 0, 0, []), 1)] 52 _ _ _ (by decide +kernel) ?_
        exact Prod.mk.inj (Option.some.inj h)
      · refine And.intro (fun hp => absurd hp c3) (fun _ => ?_)
        rcases px_ite h with ⟨c4, h⟩ | ⟨c4, h⟩
        · refine And.intro (fun _ => ?_) (fun hn => absurd c4 hn)
          refine H [((1, 1, 0, 0, []), 1), ((1, 2, 0, 0, []), 1), ((6, 1, 0, 0, []), 1), ((27, 0, 0, 0, []), 1)] 56 _ _ _ (by decide +kernel) ?_
          exact Prod.mk.inj (Option.some.inj h)
        · refine And.intro (fun hp => absurd hp c4) (fun _ => ?_)
          rcases px_ite h with ⟨c5, h⟩ | ⟨c5, h⟩
          · refine And.intro (fun _ => ?_) (fun hn => absurd c5 hn)
            refine H [((1, 1, 0, 0, []), 1), ((1, 2, 0, 0, []), 1), ((6, 5, 0, 0, []), 1), ((27, 0, 0, 0, []), 1)] 68 _ _ _ (by decide +kernel) ?_
            exact Prod.mk.inj (Option.some.inj h)
          · refine And.intro (fun hp => absurd hp c5) (fun _ => ?_)
            refine H [((1, 1, 0, 0, []), 1), ((1, 2, 0, 0, []), 1), ((13, 5, 81, 0, []), 3), ((0, 0, 0, 1, []), 1), ((12, 0, 82, 0, []), 3), ((27, 0, 0, 0, []), 1)] 72 _ _ _ (by decide +kernel) ?_
            rcases px_ite h with ⟨c6, h⟩ | ⟨c6, h⟩
            · refine And.intro (fun _ => ?_) (fun hn => absurd c6 hn)
              refine H [((0, 0, 0, 0, []), 1), ((27, 0, 0, 0, []), 1)] 81 _ _ _ (by decide +kernel) ?_
              exact Prod.mk.inj (Option.some.inj h)
            · refine And.intro (fun hp => absurd hp c6) (fun _ => ?_)
              exact Prod.mk.inj (Option.some.inj h)
theorem ok_M_reckoned {l : Launch} {a0 a1 a2 : Int} {σ : pS} {v : Int} {σ1 : pS} (h : f_M_reckoned a0 a1 a2 σ = some (v, σ1)) : Con l 0 181 [.inl a0, .inl a1, .inl a2] σ v σ1 := Con_mk 3 3 rfl (by decide +kernel) (fun _ H => ok_M_reckoned_w H _ _ _ _ h)
theorem ok_M_placeBy_84_w {l : Launch} {rv : Int} {rσ : pS} {G : Nat → pL → List pV → pS → Prop} (H : px_R l 3 182 rv rσ G) : ∀ (a1 : Int) (σ : pS), f_M_placeBy_84 a1 σ = some (rv, rσ) → G 0 [some (.inr 84), some (.inl a1), none] [] σ := by
  intro a1 σ h
  unfold f_M_placeBy_84 at h
  refine H [((2, 0, 0, 0, []), 1), ((17, 84, 94, 0, []), 3), ((1, 1, 0, 0, []), 1), ((19, 94, 20, 0, []), 1), ((0, 0, 0, (-1), []), 1), ((13, 1, 14, 0, []), 3), ((0, 0, 0, 0, []), 1), ((12, 0, 25, 0, []), 3), ((3, 2, 0, 0, []), 1), ((1, 2, 0, 0, []), 1), ((2, 0, 0, 0, []), 1), ((17, 84, 95, 0, []), 3), ((1, 1, 0, 0, []), 1), ((19, 95, 20, 0, []), 1), ((6, 0, 0, 0, []), 1), ((0, 0, 0, 63, []), 2), ((6, 3, 0, 0, []), 1), ((27, 0, 0, 0, []), 1)] 0 _ _ _ (by decide +kernel) ?_
  obtain ⟨g1, h⟩ := px_gd h
  refine And.intro g1 ?_
  rcases px_ite h with ⟨c2, h⟩ | ⟨c2, h⟩
  · refine And.intro (fun hp => absurd c2 hp) (fun _ => ?_)
    obtain ⟨g6, h⟩ := px_gd h
    refine And.intro g6 ?_
    exact Prod.mk.inj (Option.some.inj h)
  · refine And.intro (fun _ => ?_) (fun hn => absurd c2 hn)
    refine H [((2, 0, 0, 0, []), 1), ((1, 1, 0, 0, []), 1), ((2, 0, 0, 0, []), 1), ((17, 84, 94, 0, []), 3), ((1, 1, 0, 0, []), 1), ((19, 94, 20, 0, []), 1), ((23, 180, 2, 1, [(0, 84)]), 3), ((3, 2, 0, 0, []), 1), ((1, 2, 0, 0, []), 1), ((2, 0, 0, 0, []), 1), ((17, 84, 95, 0, []), 3), ((1, 1, 0, 0, []), 1), ((19, 95, 20, 0, []), 1), ((6, 0, 0, 0, []), 1), ((0, 0, 0, 63, []), 2), ((6, 3, 0, 0, []), 1), ((27, 0, 0, 0, []), 1)] 14 _ _ _ (by decide +kernel) ?_
    obtain ⟨g3, h⟩ := px_gd h
    refine And.intro g3 ?_
    obtain ⟨⟨vq4, σq4⟩, hq4, h⟩ := px_bind h
    dsimp only at h
    refine Exists.intro 2 (Exists.intro vq4 (Exists.intro σq4 (And.intro (Nat.le_of_ble_eq_true rfl) (And.intro (ok_M_readBy_84 hq4) ?_))))
    obtain ⟨g5, h⟩ := px_gd h
    refine And.intro g5 ?_
    exact Prod.mk.inj (Option.some.inj h)
theorem ok_M_placeBy_84 {l : Launch} {a1 : Int} {σ : pS} {v : Int} {σ1 : pS} (h : f_M_placeBy_84 a1 σ = some (v, σ1)) : Con l 3 182 [.inr 84, .inl a1] σ v σ1 := Con_mk 2 3 rfl (by decide +kernel) (fun _ H => ok_M_placeBy_84_w H _ _ h)
theorem ok_M_covers_84_w {l : Launch} {rv : Int} {rσ : pS} {G : Nat → pL → List pV → pS → Prop} (H : px_R l 0 184 rv rσ G) : ∀ (a1 a2 : Int) (σ : pS), f_M_covers_84 a1 a2 σ = some (rv, rσ) → G 0 [some (.inr 84), some (.inl a1), some (.inl a2)] [] σ := by
  intro a1 a2 σ h
  unfold f_M_covers_84 at h
  refine H [((1, 2, 0, 0, []), 1), ((2, 0, 0, 0, []), 1), ((17, 84, 121, 0, []), 3), ((1, 1, 0, 0, []), 1), ((19, 121, 20, 0, []), 1), ((6, 1, 0, 0, []), 1), ((0, 0, 0, 63, []), 2), ((6, 3, 0, 0, []), 1), ((2, 0, 0, 0, []), 1), ((17, 84, 93, 0, []), 3), ((1, 1, 0, 0, []), 1), ((19, 93, 20, 0, []), 1), ((13, 3, 24, 0, []), 3), ((0, 0, 0, 1, []), 1), ((12, 0, 25, 0, []), 3), ((27, 1, 0, 0, []), 1)] 0 _ _ _ (by decide +kernel) ?_
  obtain ⟨g1, h⟩ := px_gd h
  refine And.intro g1 ?_
  obtain ⟨g2, h⟩ := px_gd h
  refine And.intro g2 ?_
  rcases px_ite h with ⟨c3, h⟩ | ⟨c3, h⟩
  · refine And.intro (fun _ => ?_) (fun hn => absurd c3 hn)
    refine H [((0, 0, 0, 0, []), 1), ((27, 1, 0, 0, []), 1)] 24 _ _ _ (by decide +kernel) ?_
    refine And.intro (show (0 : Int) ≤ 0 ∧ (0 : Int) ≤ 1 from by decide) ?_
    exact Prod.mk.inj (Option.some.inj h)
  · refine And.intro (fun hp => absurd hp c3) (fun _ => ?_)
    refine And.intro (show (0 : Int) ≤ 1 ∧ (1 : Int) ≤ 1 from by decide) ?_
    exact Prod.mk.inj (Option.some.inj h)
theorem ok_M_covers_84 {l : Launch} {a1 a2 : Int} {σ : pS} {v : Int} {σ1 : pS} (h : f_M_covers_84 a1 a2 σ = some (v, σ1)) : Con l 0 184 [.inr 84, .inl a1, .inl a2] σ v σ1 := Con_mk 3 3 rfl (by decide +kernel) (fun _ H => ok_M_covers_84_w H _ _ _ h)
theorem ok_M_loads_84_p134 {l : Launch} {rv : Int} {rσ : pS} {G : Nat → pL → List pV → pS → Prop} (H : px_R l 1 183 rv rσ G) {k_9 : Int → Int → pS → Option (Int × pS)} (hk_9 : ∀ (a1 a2 : Int) (σ : pS), k_9 a1 a2 σ = some (rv, rσ) → G 9 [some (.inr 84), some (.inl a1), some (.inl a2), none, none, none] [] σ) : ∀ (a1 a2 s0 : Int) (σ : pS), f_M_loads_84_p134 k_9 a1 a2 s0 σ = some (rv, rσ) → G 134 [some (.inr 84), some (.inl a1), some (.inl a2), none, none, none] [.inl s0] σ := by
  intro a1 a2 s0 σ h
  unfold f_M_loads_84_p134 at h
  refine H [((3, 5, 0, 0, []), 2), ((2, 0, 0, 0, []), 1), ((17, 84, 120, 0, []), 3), ((1, 1, 0, 0, []), 1), ((2, 0, 0, 0, []), 1), ((17, 84, 120, 0, []), 3), ((1, 1, 0, 0, []), 1), ((19, 120, 20, 0, []), 1), ((1, 5, 0, 0, []), 2), ((0, 0, 0, 8, []), 2), ((1, 2, 0, 0, []), 1), ((6, 2, 0, 0, []), 1), ((6, 6, 0, 0, []), 1), ((6, 4, 0, 0, []), 1), ((20, 120, 20, 0, []), 1), ((5, 2, 0, 1, []), 3), ((12, 0, 9, 0, []), 3), ((29, 5, 0, 0, []), 0)] 134 _ _ _ (by decide +kernel) ?_
  obtain ⟨g11, h⟩ := px_gd h
  refine And.intro g11 ?_
  obtain ⟨g12, h⟩ := px_gd h
  refine And.intro g12 ?_
  exact hk_9 _ _ _ h
theorem ok_M_loads_84_p37 {l : Launch} {rv : Int} {rσ : pS} {G : Nat → pL → List pV → pS → Prop} (H : px_R l 1 183 rv rσ G) {k_9 : Int → Int → pS → Option (Int × pS)} (hk_9 : ∀ (a1 a2 : Int) (σ : pS), k_9 a1 a2 σ = some (rv, rσ) → G 9 [some (.inr 84), some (.inl a1), some (.inl a2), none, none, none] [] σ) : ∀ (n : Nat) (a1 a2 a3 a4 a5 : Int) (σ : pS), f_M_loads_84_p37 k_9 n a1 a2 a3 a4 a5 σ = some (rv, rσ) → G 37 [some (.inr 84), some (.inl a1), some (.inl a2), some (.inl a3), some (.inl a4), some (.inl a5)] [] σ := by
  intro n
  induction n with
  | zero =>
    intro a1 a2 a3 a4 a5 σ h
    unfold f_M_loads_84_p37 at h
    cases h
  | succ n ih =>
    intro a1 a2 a3 a4 a5 σ h
    unfold f_M_loads_84_p37 at h
    refine H [((1, 5, 0, 0, []), 2), ((1, 1, 0, 0, []), 1), ((13, 3, 85, 0, []), 3), ((2, 0, 0, 0, []), 1), ((17, 84, 88, 0, []), 3), ((1, 5, 0, 0, []), 2), ((19, 88, 20, 0, []), 1), ((0, 0, 0, 3, []), 1), ((13, 1, 79, 0, []), 3), ((2, 0, 0, 0, []), 1), ((17, 84, 118, 0, []), 3), ((1, 5, 0, 0, []), 2), ((19, 118, 20, 0, []), 1), ((0, 0, 0, 2, []), 1), ((13, 1, 79, 0, []), 3), ((2, 0, 0, 0, []), 1), ((1, 5, 0, 0, []), 2), ((1, 3, 0, 0, []), 1), ((23, 184, 2, 1, [(0, 84)]), 3), ((14, 0, 79, 0, []), 3), ((1, 5, 0, 0, []), 2), ((3, 4, 0, 0, []), 2), ((5, 5, 0, 1, []), 3), ((12, 0, 37, 0, []), 3)] 37 _ _ _ (by decide +kernel) ?_
    rcases px_ite h with ⟨c5, h⟩ | ⟨c5, h⟩
    · refine And.intro (fun _ => ?_) (fun hn => absurd c5 hn)
      refine H [((2, 0, 0, 0, []), 1), ((17, 84, 124, 0, []), 3), ((0, 0, 0, 4, []), 1), ((1, 1, 0, 0, []), 1), ((6, 2, 0, 0, []), 1), ((1, 2, 0, 0, []), 1), ((6, 0, 0, 0, []), 1), ((1, 4, 0, 0, []), 2), ((20, 124, 80, 0, []), 1), ((1, 4, 0, 0, []), 2), ((0, 0, 0, (-1), []), 1), ((13, 1, 112, 0, []), 3), ((2, 0, 0, 0, []), 1), ((17, 84, 127, 0, []), 3), ((1, 3, 0, 0, []), 1), ((19, 127, 64, 0, []), 1), ((12, 0, 134, 0, []), 3), ((29, 3, 0, 0, []), 0), ((29, 4, 0, 0, []), 0), ((29, 5, 0, 0, []), 0)] 85 _ _ _ (by decide +kernel) ?_
      obtain ⟨g6, h⟩ := px_gd h
      refine And.intro g6 ?_
      rcases px_ite h with ⟨c7, h⟩ | ⟨c7, h⟩
      · refine And.intro (fun hp => absurd c7 hp) (fun _ => ?_)
        obtain ⟨g13, h⟩ := px_gd h
        refine And.intro g13 ?_
        exact ok_M_loads_84_p134 H hk_9 _ _ _ _ h
      · refine And.intro (fun _ => ?_) (fun hn => absurd c7 hn)
        refine H [((2, 0, 0, 0, []), 1), ((17, 84, 120, 0, []), 3), ((1, 4, 0, 0, []), 2), ((19, 120, 20, 0, []), 1), ((1, 3, 0, 0, []), 1), ((2, 0, 0, 0, []), 1), ((17, 84, 121, 0, []), 3), ((1, 4, 0, 0, []), 2), ((19, 121, 20, 0, []), 1), ((6, 1, 0, 0, []), 1), ((0, 0, 0, 63, []), 2), ((6, 3, 0, 0, []), 1), ((24, 185, 2, 1, []), 3), ((29, 3, 0, 0, []), 0), ((29, 4, 0, 0, []), 0), ((29, 5, 0, 0, []), 0)] 112 _ _ _ (by decide +kernel) ?_
        obtain ⟨g8, h⟩ := px_gd h
        refine And.intro g8 ?_
        obtain ⟨g9, h⟩ := px_gd h
        refine And.intro g9 ?_
        obtain ⟨⟨vq10, σq10⟩, hq10, h⟩ := px_bind h
        dsimp only at h
        refine Exists.intro 0 (Exists.intro vq10 (Exists.intro σq10 (And.intro (Nat.le_of_ble_eq_true rfl) (And.intro (ok_M_byteOf hq10) ?_))))
        exact ok_M_loads_84_p134 H hk_9 _ _ _ _ h
    · refine And.intro (fun hp => absurd hp c5) (fun _ => ?_)
      obtain ⟨g14, h⟩ := px_gd h
      refine And.intro g14 ?_
      rcases px_ite h with ⟨c15, h⟩ | ⟨c15, h⟩
      · refine And.intro (fun hp => absurd c15 hp) (fun _ => ?_)
        obtain ⟨g16, h⟩ := px_gd h
        refine And.intro g16 ?_
        rcases px_ite h with ⟨c17, h⟩ | ⟨c17, h⟩
        · refine And.intro (fun hp => absurd c17 hp) (fun _ => ?_)
          obtain ⟨⟨vq18, σq18⟩, hq18, h⟩ := px_bind h
          dsimp only at h
          refine Exists.intro 0 (Exists.intro vq18 (Exists.intro σq18 (And.intro (Nat.le_of_ble_eq_true rfl) (And.intro (ok_M_covers_84 hq18) ?_))))
          rcases px_ite h with ⟨c19, h⟩ | ⟨c19, h⟩
          · refine And.intro (fun _ => ?_) (fun hn => absurd c19 hn)
            refine H [((5, 5, 0, 1, []), 3), ((12, 0, 37, 0, []), 3)] 79 _ _ _ (by decide +kernel) ?_
            exact ih _ _ _ _ _ _ h
          · refine And.intro (fun hp => absurd hp c19) (fun _ => ?_)
            exact ih _ _ _ _ _ _ h
        · refine And.intro (fun _ => ?_) (fun hn => absurd c17 hn)
          refine H [((5, 5, 0, 1, []), 3), ((12, 0, 37, 0, []), 3)] 79 _ _ _ (by decide +kernel) ?_
          exact ih _ _ _ _ _ _ h
      · refine And.intro (fun _ => ?_) (fun hn => absurd c15 hn)
        refine H [((5, 5, 0, 1, []), 3), ((12, 0, 37, 0, []), 3)] 79 _ _ _ (by decide +kernel) ?_
        exact ih _ _ _ _ _ _ h
theorem ok_M_loads_84_p9 {l : Launch} {rv : Int} {rσ : pS} {G : Nat → pL → List pV → pS → Prop} (H : px_R l 1 183 rv rσ G) : ∀ (n : Nat) (a1 a2 : Int) (σ : pS), f_M_loads_84_p9 n a1 a2 σ = some (rv, rσ) → G 9 [some (.inr 84), some (.inl a1), some (.inl a2), none, none, none] [] σ := by
  intro n
  induction n with
  | zero =>
    intro a1 a2 σ h
    unfold f_M_loads_84_p9 at h
    cases h
  | succ n ih =>
    intro a1 a2 σ h
    unfold f_M_loads_84_p9 at h
    refine H [((1, 2, 0, 0, []), 1), ((2, 0, 0, 0, []), 1), ((17, 84, 93, 0, []), 3), ((1, 1, 0, 0, []), 1), ((19, 93, 20, 0, []), 1), ((13, 3, 162, 0, []), 3), ((2, 0, 0, 0, []), 1), ((17, 84, 121, 0, []), 3), ((1, 1, 0, 0, []), 1), ((19, 121, 20, 0, []), 1), ((1, 2, 0, 0, []), 1), ((6, 0, 0, 0, []), 1), ((0, 0, 0, 63, []), 2), ((6, 3, 0, 0, []), 1), ((3, 3, 0, 0, []), 1), ((0, 0, 0, (-1), []), 1), ((3, 4, 0, 0, []), 2), ((0, 0, 0, 0, []), 1), ((3, 5, 0, 0, []), 2)] 9 _ _ _ (by decide +kernel) ?_
    obtain ⟨g2, h⟩ := px_gd h
    refine And.intro g2 ?_
    rcases px_ite h with ⟨c3, h⟩ | ⟨c3, h⟩
    · refine And.intro (fun _ => ?_) (fun hn => absurd c3 hn)
      refine H [((28, 0, 0, 0, []), 1)] 162 _ _ _ (by decide +kernel) ?_
      exact (Prod.mk.inj (Option.some.inj h)).2
    · refine And.intro (fun hp => absurd hp c3) (fun _ => ?_)
      obtain ⟨g4, h⟩ := px_gd h
      refine And.intro g4 ?_
      exact ok_M_loads_84_p37 H ih _ _ _ _ _ _ _ h
theorem ok_M_loads_84_w {l : Launch} {rv : Int} {rσ : pS} {G : Nat → pL → List pV → pS → Prop} (H : px_R l 1 183 rv rσ G) : ∀ (a1 : Int) (σ : pS), f_M_loads_84 a1 σ = some (rv, rσ) → G 0 [some (.inr 84), some (.inl a1), none, none, none, none] [] σ := by
  intro a1 σ h
  unfold f_M_loads_84 at h
  refine H [((2, 0, 0, 0, []), 1), ((17, 84, 120, 0, []), 3), ((1, 1, 0, 0, []), 1), ((0, 0, 0, 0, []), 1), ((20, 120, 20, 0, []), 1), ((0, 0, 0, 0, []), 1), ((3, 2, 0, 0, []), 1)] 0 _ _ _ (by decide +kernel) ?_
  obtain ⟨g1, h⟩ := px_gd h
  refine And.intro g1 ?_
  exact ok_M_loads_84_p9 H _ _ _ _ h
theorem ok_M_loads_84 {l : Launch} {a1 : Int} {σ : pS} {v : Int} {σ1 : pS} (h : f_M_loads_84 a1 σ = some (v, σ1)) : Con l 1 183 [.inr 84, .inl a1] σ v σ1 := Con_mk 2 6 rfl (by decide +kernel) (fun _ H => ok_M_loads_84_w H _ _ h)
theorem ok_M_cut_w {l : Launch} {rv : Int} {rσ : pS} {G : Nat → pL → List pV → pS → Prop} (H : px_R l 0 186 rv rσ G) : ∀ (a0 a1 : Int) (σ : pS), f_M_cut a0 a1 σ = some (rv, rσ) → G 0 [some (.inl a0), some (.inl a1)] [] σ := by
  intro a0 a1 σ h
  unfold f_M_cut at h
  refine H [((1, 1, 0, 0, []), 1), ((0, 0, 0, 1, []), 1), ((13, 1, 13, 0, []), 3), ((1, 0, 0, 0, []), 1), ((0, 0, 0, 255, []), 3), ((6, 3, 0, 0, []), 1), ((12, 0, 27, 0, []), 3), ((27, 0, 0, 0, []), 1)] 0 _ _ _ (by decide +kernel) ?_
  rcases px_ite h with ⟨c1, h⟩ | ⟨c1, h⟩
  · refine And.intro (fun hp => absurd c1 hp) (fun _ => ?_)
    exact Prod.mk.inj (Option.some.inj h)
  · refine And.intro (fun _ => ?_) (fun hn => absurd c1 hn)
    refine H [((1, 1, 0, 0, []), 1), ((0, 0, 0, 2, []), 1), ((13, 1, 26, 0, []), 3), ((1, 0, 0, 0, []), 1), ((0, 0, 0, 65535, []), 3), ((6, 3, 0, 0, []), 1), ((12, 0, 27, 0, []), 3), ((27, 0, 0, 0, []), 1)] 13 _ _ _ (by decide +kernel) ?_
    rcases px_ite h with ⟨c2, h⟩ | ⟨c2, h⟩
    · refine And.intro (fun hp => absurd c2 hp) (fun _ => ?_)
      exact Prod.mk.inj (Option.some.inj h)
    · refine And.intro (fun _ => ?_) (fun hn => absurd c2 hn)
      refine H [((1, 0, 0, 0, []), 1), ((27, 0, 0, 0, []), 1)] 26 _ _ _ (by decide +kernel) ?_
      exact Prod.mk.inj (Option.some.inj h)
theorem ok_M_cut {l : Launch} {a0 a1 : Int} {σ : pS} {v : Int} {σ1 : pS} (h : f_M_cut a0 a1 σ = some (v, σ1)) : Con l 0 186 [.inl a0, .inl a1] σ v σ1 := Con_mk 2 2 rfl (by decide +kernel) (fun _ H => ok_M_cut_w H _ _ _ h)
theorem ok_M_lists_84_w {l : Launch} {rv : Int} {rσ : pS} {G : Nat → pL → List pV → pS → Prop} (H : px_R l 0 192 rv rσ G) : ∀ (a1 : Int) (σ : pS), f_M_lists_84 a1 σ = some (rv, rσ) → G 0 [some (.inr 84), some (.inl a1)] [] σ := by
  intro a1 σ h
  unfold f_M_lists_84 at h
  refine H [((2, 0, 0, 0, []), 1), ((17, 84, 131, 0, []), 3), ((2, 0, 0, 0, []), 1), ((16, 84, 72, 0, []), 3), ((1, 1, 0, 0, []), 1), ((20, 131, 400, 0, []), 1), ((2, 0, 0, 0, []), 1), ((2, 0, 0, 0, []), 1), ((16, 84, 72, 0, []), 3), ((0, 0, 0, 1, []), 1), ((6, 0, 0, 0, []), 1), ((18, 84, 72, 0, []), 3), ((28, 0, 0, 0, []), 1)] 0 _ _ _ (by decide +kernel) ?_
  obtain ⟨g1, h⟩ := px_gd h
  refine And.intro g1 ?_
  exact (Prod.mk.inj (Option.some.inj h)).2
theorem ok_M_lists_84 {l : Launch} {a1 : Int} {σ : pS} {v : Int} {σ1 : pS} (h : f_M_lists_84 a1 σ = some (v, σ1)) : Con l 0 192 [.inr 84, .inl a1] σ v σ1 := Con_mk 2 2 rfl (by decide +kernel) (fun _ H => ok_M_lists_84_w H _ _ h)
theorem ok_M_tookFrom_84_p2 {l : Launch} {rv : Int} {rσ : pS} {G : Nat → pL → List pV → pS → Prop} (H : px_R l 0 194 rv rσ G) : ∀ (n : Nat) (a1 a2 a3 : Int) (σ : pS), f_M_tookFrom_84_p2 n a1 a2 a3 σ = some (rv, rσ) → G 2 [some (.inr 84), some (.inl a1), some (.inl a2), some (.inl a3)] [] σ := by
  intro n
  induction n with
  | zero =>
    intro a1 a2 a3 σ h
    unfold f_M_tookFrom_84_p2 at h
    cases h
  | succ n ih =>
    intro a1 a2 a3 σ h
    unfold f_M_tookFrom_84_p2 at h
    refine H [((1, 3, 0, 0, []), 1), ((2, 0, 0, 0, []), 1), ((17, 84, 93, 0, []), 3), ((1, 1, 0, 0, []), 1), ((19, 93, 20, 0, []), 1), ((13, 3, 34, 0, []), 3), ((2, 0, 0, 0, []), 1), ((17, 84, 124, 0, []), 3), ((0, 0, 0, 4, []), 1), ((1, 1, 0, 0, []), 1), ((6, 2, 0, 0, []), 1), ((1, 3, 0, 0, []), 1), ((6, 0, 0, 0, []), 1), ((19, 124, 80, 0, []), 1), ((1, 2, 0, 0, []), 1), ((13, 1, 28, 0, []), 3), ((0, 0, 0, 1, []), 1), ((27, 1, 0, 0, []), 1)] 2 _ _ _ (by decide +kernel) ?_
    obtain ⟨g1, h⟩ := px_gd h
    refine And.intro g1 ?_
    rcases px_ite h with ⟨c2, h⟩ | ⟨c2, h⟩
    · refine And.intro (fun _ => ?_) (fun hn => absurd c2 hn)
      refine H [((0, 0, 0, 0, []), 1), ((27, 1, 0, 0, []), 1)] 34 _ _ _ (by decide +kernel) ?_
      refine And.intro (show (0 : Int) ≤ 0 ∧ (0 : Int) ≤ 1 from by decide) ?_
      exact Prod.mk.inj (Option.some.inj h)
    · refine And.intro (fun hp => absurd hp c2) (fun _ => ?_)
      obtain ⟨g3, h⟩ := px_gd h
      refine And.intro g3 ?_
      rcases px_ite h with ⟨c4, h⟩ | ⟨c4, h⟩
      · refine And.intro (fun hp => absurd c4 hp) (fun _ => ?_)
        refine And.intro (show (0 : Int) ≤ 1 ∧ (1 : Int) ≤ 1 from by decide) ?_
        exact Prod.mk.inj (Option.some.inj h)
      · refine And.intro (fun _ => ?_) (fun hn => absurd c4 hn)
        refine H [((5, 3, 0, 1, []), 3), ((12, 0, 2, 0, []), 3)] 28 _ _ _ (by decide +kernel) ?_
        exact ih _ _ _ _ h
theorem ok_M_tookFrom_84_w {l : Launch} {rv : Int} {rσ : pS} {G : Nat → pL → List pV → pS → Prop} (H : px_R l 0 194 rv rσ G) : ∀ (a1 a2 : Int) (σ : pS), f_M_tookFrom_84 a1 a2 σ = some (rv, rσ) → G 0 [some (.inr 84), some (.inl a1), some (.inl a2), none] [] σ := by
  intro a1 a2 σ h
  unfold f_M_tookFrom_84 at h
  refine H [((0, 0, 0, 0, []), 1), ((3, 3, 0, 0, []), 1)] 0 _ _ _ (by decide +kernel) ?_
  exact ok_M_tookFrom_84_p2 H _ _ _ _ _ h
theorem ok_M_tookFrom_84 {l : Launch} {a1 a2 : Int} {σ : pS} {v : Int} {σ1 : pS} (h : f_M_tookFrom_84 a1 a2 σ = some (v, σ1)) : Con l 0 194 [.inr 84, .inl a1, .inl a2] σ v σ1 := Con_mk 3 4 rfl (by decide +kernel) (fun _ H => ok_M_tookFrom_84_w H _ _ _ h)
theorem ok_M_listsThoseBy_84_p92 {l : Launch} {rv : Int} {rσ : pS} {G : Nat → pL → List pV → pS → Prop} (H : px_R l 3 193 rv rσ G) {k_4 : Int → Int → pS → Option (Int × pS)} (hk_4 : ∀ (a1 a2 : Int) (σ : pS), k_4 a1 a2 σ = some (rv, rσ) → G 4 [some (.inr 84), some (.inl a1), some (.inl a2), none] [] σ) : ∀ (a1 a2 : Int) (σ : pS), f_M_listsThoseBy_84_p92 k_4 a1 a2 σ = some (rv, rσ) → G 92 [some (.inr 84), some (.inl a1), some (.inl a2), none] [] σ := by
  intro a1 a2 σ h
  unfold f_M_listsThoseBy_84_p92 at h
  refine H [((2, 0, 0, 0, []), 1), ((1, 2, 0, 0, []), 1), ((23, 192, 1, 0, [(0, 84)]), 3), ((5, 2, 0, 1, []), 3), ((12, 0, 4, 0, []), 3)] 92 _ _ _ (by decide +kernel) ?_
  obtain ⟨⟨vq7, σq7⟩, hq7, h⟩ := px_bind h
  dsimp only at h
  refine Exists.intro 0 (Exists.intro vq7 (Exists.intro σq7 (And.intro (Nat.le_of_ble_eq_true rfl) (And.intro (ok_M_lists_84 hq7) ?_))))
  exact hk_4 _ _ _ h
theorem ok_M_listsThoseBy_84_p68 {l : Launch} {rv : Int} {rσ : pS} {G : Nat → pL → List pV → pS → Prop} (H : px_R l 3 193 rv rσ G) {k_4 : Int → Int → pS → Option (Int × pS)} (hk_4 : ∀ (a1 a2 : Int) (σ : pS), k_4 a1 a2 σ = some (rv, rσ) → G 4 [some (.inr 84), some (.inl a1), some (.inl a2), none] [] σ) : ∀ (a1 a2 s0 : Int) (σ : pS), f_M_listsThoseBy_84_p68 k_4 a1 a2 s0 σ = some (rv, rσ) → G 68 [some (.inr 84), some (.inl a1), some (.inl a2), none] [.inl s0] σ := by
  intro a1 a2 s0 σ h
  unfold f_M_listsThoseBy_84_p68 at h
  refine H [((3, 3, 0, 0, []), 1), ((1, 3, 0, 0, []), 1), ((14, 1, 92, 0, []), 3), ((2, 0, 0, 0, []), 1), ((17, 84, 88, 0, []), 3), ((1, 1, 0, 0, []), 1), ((19, 88, 20, 0, []), 1), ((0, 0, 0, 3, []), 1), ((13, 0, 97, 0, []), 3), ((2, 0, 0, 0, []), 1), ((1, 2, 0, 0, []), 1), ((1, 1, 0, 0, []), 1), ((23, 195, 2, 1, [(0, 84)]), 3), ((14, 0, 97, 0, []), 3), ((29, 3, 0, 0, []), 0)] 68 _ _ _ (by decide +kernel) ?_
  rcases px_ite h with ⟨c6, h⟩ | ⟨c6, h⟩
  · refine And.intro (fun hp => absurd c6 hp) (fun _ => ?_)
    obtain ⟨g8, h⟩ := px_gd h
    refine And.intro g8 ?_
    rcases px_ite h with ⟨c9, h⟩ | ⟨c9, h⟩
    · refine And.intro (fun _ => ?_) (fun hn => absurd c9 hn)
      refine H [((5, 2, 0, 1, []), 3), ((12, 0, 4, 0, []), 3), ((29, 3, 0, 0, []), 0)] 97 _ _ _ (by decide +kernel) ?_
      exact hk_4 _ _ _ h
    · refine And.intro (fun hp => absurd hp c9) (fun _ => ?_)
      obtain ⟨⟨vq10, σq10⟩, hq10, h⟩ := px_bind h
      dsimp only at h
      refine Exists.intro 2 (Exists.intro vq10 (Exists.intro σq10 (And.intro (Nat.le_of_ble_eq_true rfl) (And.intro (ok_M_hasSource_84 hq10) ?_))))
      rcases px_ite h with ⟨c11, h⟩ | ⟨c11, h⟩
      · refine And.intro (fun _ => ?_) (fun hn => absurd c11 hn)
        refine H [((5, 2, 0, 1, []), 3), ((12, 0, 4, 0, []), 3), ((29, 3, 0, 0, []), 0)] 97 _ _ _ (by decide +kernel) ?_
        exact hk_4 _ _ _ h
      · refine And.intro (fun hp => absurd hp c11) (fun _ => ?_)
        exact ok_M_listsThoseBy_84_p92 H hk_4 _ _ _ h
  · refine And.intro (fun _ => ?_) (fun hn => absurd c6 hn)
    refine H [((29, 3, 0, 0, []), 0)] 92 _ _ _ (by decide +kernel) ?_
    exact ok_M_listsThoseBy_84_p92 H hk_4 _ _ _ h
theorem ok_M_listsThoseBy_84_p67 {l : Launch} {rv : Int} {rσ : pS} {G : Nat → pL → List pV → pS → Prop} (H : px_R l 3 193 rv rσ G) {k_4 : Int → Int → pS → Option (Int × pS)} (hk_4 : ∀ (a1 a2 : Int) (σ : pS), k_4 a1 a2 σ = some (rv, rσ) → G 4 [some (.inr 84), some (.inl a1), some (.inl a2), none] [] σ) : ∀ (a1 a2 : Int) (σ : pS), f_M_listsThoseBy_84_p67 k_4 a1 a2 σ = some (rv, rσ) → G 67 [some (.inr 84), some (.inl a1), some (.inl a2), none] [] σ := by
  intro a1 a2 σ h
  unfold f_M_listsThoseBy_84_p67 at h
  refine H [((0, 0, 0, 0, []), 1)] 67 _ _ _ (by decide +kernel) ?_
  exact ok_M_listsThoseBy_84_p68 H hk_4 _ _ _ _ h
theorem ok_M_listsThoseBy_84_p4 {l : Launch} {rv : Int} {rσ : pS} {G : Nat → pL → List pV → pS → Prop} (H : px_R l 3 193 rv rσ G) : ∀ (n : Nat) (a1 a2 : Int) (σ : pS), f_M_listsThoseBy_84_p4 n a1 a2 σ = some (rv, rσ) → G 4 [some (.inr 84), some (.inl a1), some (.inl a2), none] [] σ := by
  intro n
  induction n with
  | zero =>
    intro a1 a2 σ h
    unfold f_M_listsThoseBy_84_p4 at h
    cases h
  | succ n ih =>
    intro a1 a2 σ h
    unfold f_M_listsThoseBy_84_p4 at h
    refine H [((1, 2, 0, 0, []), 1), ((2, 0, 0, 0, []), 1), ((16, 84, 2, 0, []), 3), ((13, 3, 103, 0, []), 3), ((2, 0, 0, 0, []), 1), ((17, 84, 118, 0, []), 3), ((1, 2, 0, 0, []), 1), ((19, 118, 20, 0, []), 1), ((14, 1, 24, 0, []), 3), ((12, 0, 97, 0, []), 3), ((5, 2, 0, 1, []), 3), ((12, 0, 4, 0, []), 3)] 4 _ _ _ (by decide +kernel) ?_
    rcases px_ite h with ⟨c1, h⟩ | ⟨c1, h⟩
    · refine And.intro (fun _ => ?_) (fun hn => absurd c1 hn)
      refine H [((28, 0, 0, 0, []), 1)] 103 _ _ _ (by decide +kernel) ?_
      exact (Prod.mk.inj (Option.some.inj h)).2
    · refine And.intro (fun hp => absurd hp c1) (fun _ => ?_)
      obtain ⟨g2, h⟩ := px_gd h
      refine And.intro g2 ?_
      rcases px_ite h with ⟨c3, h⟩ | ⟨c3, h⟩
      · refine And.intro (fun hp => absurd c3 hp) (fun _ => ?_)
        exact ih _ _ _ h
      · refine And.intro (fun _ => ?_) (fun hn => absurd c3 hn)
        refine H [((2, 0, 0, 0, []), 1), ((17, 84, 88, 0, []), 3), ((1, 1, 0, 0, []), 1), ((19, 88, 20, 0, []), 1), ((0, 0, 0, 3, []), 1), ((13, 1, 67, 0, []), 3), ((2, 0, 0, 0, []), 1), ((17, 84, 88, 0, []), 3), ((1, 2, 0, 0, []), 1), ((19, 88, 20, 0, []), 1), ((0, 0, 0, 2, []), 1), ((13, 1, 67, 0, []), 3), ((2, 0, 0, 0, []), 1), ((17, 84, 118, 0, []), 3), ((1, 2, 0, 0, []), 1), ((19, 118, 20, 0, []), 1), ((0, 0, 0, 2, []), 1), ((13, 1, 67, 0, []), 3), ((2, 0, 0, 0, []), 1), ((1, 2, 0, 0, []), 1), ((1, 1, 0, 0, []), 1), ((23, 194, 2, 1, [(0, 84)]), 3), ((14, 0, 67, 0, []), 3), ((0, 0, 0, 1, []), 1), ((12, 0, 68, 0, []), 3)] 24 _ _ _ (by decide +kernel) ?_
        obtain ⟨g4, h⟩ := px_gd h
        refine And.intro g4 ?_
        rcases px_ite h with ⟨c5, h⟩ | ⟨c5, h⟩
        · refine And.intro (fun hp => absurd c5 hp) (fun _ => ?_)
          obtain ⟨g12, h⟩ := px_gd h
          refine And.intro g12 ?_
          rcases px_ite h with ⟨c13, h⟩ | ⟨c13, h⟩
          · refine And.intro (fun hp => absurd c13 hp) (fun _ => ?_)
            obtain ⟨g14, h⟩ := px_gd h
            refine And.intro g14 ?_
            rcases px_ite h with ⟨c15, h⟩ | ⟨c15, h⟩
            · refine And.intro (fun hp => absurd c15 hp) (fun _ => ?_)
              obtain ⟨⟨vq16, σq16⟩, hq16, h⟩ := px_bind h
              dsimp only at h
              refine Exists.intro 0 (Exists.intro vq16 (Exists.intro σq16 (And.intro (Nat.le_of_ble_eq_true rfl) (And.intro (ok_M_tookFrom_84 hq16) ?_))))
              rcases px_ite h with ⟨c17, h⟩ | ⟨c17, h⟩
              · refine And.intro (fun _ => ?_) (fun hn => absurd c17 hn)
                exact ok_M_listsThoseBy_84_p67 H ih _ _ _ h
              · refine And.intro (fun hp => absurd hp c17) (fun _ => ?_)
                exact ok_M_listsThoseBy_84_p68 H ih _ _ _ _ h
            · refine And.intro (fun _ => ?_) (fun hn => absurd c15 hn)
              exact ok_M_listsThoseBy_84_p67 H ih _ _ _ h
          · refine And.intro (fun _ => ?_) (fun hn => absurd c13 hn)
            exact ok_M_listsThoseBy_84_p67 H ih _ _ _ h
        · refine And.intro (fun _ => ?_) (fun hn => absurd c5 hn)
          exact ok_M_listsThoseBy_84_p67 H ih _ _ _ h
theorem ok_M_listsThoseBy_84_w {l : Launch} {rv : Int} {rσ : pS} {G : Nat → pL → List pV → pS → Prop} (H : px_R l 3 193 rv rσ G) : ∀ (a1 : Int) (σ : pS), f_M_listsThoseBy_84 a1 σ = some (rv, rσ) → G 0 [some (.inr 84), some (.inl a1), none, none] [] σ := by
  intro a1 σ h
  unfold f_M_listsThoseBy_84 at h
  refine H [((1, 1, 0, 0, []), 1), ((0, 0, 0, 1, []), 1), ((6, 0, 0, 0, []), 1), ((3, 2, 0, 0, []), 1)] 0 _ _ _ (by decide +kernel) ?_
  exact ok_M_listsThoseBy_84_p4 H _ _ _ _ h
theorem ok_M_listsThoseBy_84 {l : Launch} {a1 : Int} {σ : pS} {v : Int} {σ1 : pS} (h : f_M_listsThoseBy_84 a1 σ = some (v, σ1)) : Con l 3 193 [.inr 84, .inl a1] σ v σ1 := Con_mk 2 4 rfl (by decide +kernel) (fun _ H => ok_M_listsThoseBy_84_w H _ _ h)
theorem ok_M_replaysAll_84_p12 {l : Launch} {rv : Int} {rσ : pS} {G : Nat → pL → List pV → pS → Prop} (H : px_R l 4 191 rv rσ G) : ∀ (n : Nat) (a2 : Int) (σ : pS), f_M_replaysAll_84_p12 n a2 σ = some (rv, rσ) → G 12 [some (.inr 84), none, some (.inl a2), none] [] σ := by
  intro n
  induction n with
  | zero =>
    intro a2 σ h
    unfold f_M_replaysAll_84_p12 at h
    cases h
  | succ n ih =>
    intro a2 σ h
    unfold f_M_replaysAll_84_p12 at h
    refine H [((1, 2, 0, 0, []), 1), ((2, 0, 0, 0, []), 1), ((16, 84, 72, 0, []), 3), ((13, 3, 105, 0, []), 3), ((2, 0, 0, 0, []), 1), ((17, 84, 131, 0, []), 3), ((1, 2, 0, 0, []), 1), ((19, 131, 400, 0, []), 1), ((3, 3, 0, 0, []), 1), ((2, 0, 0, 0, []), 1), ((17, 84, 118, 0, []), 3), ((1, 3, 0, 0, []), 1), ((19, 118, 20, 0, []), 1), ((14, 1, 39, 0, []), 3), ((12, 0, 99, 0, []), 3), ((5, 2, 0, 1, []), 3), ((12, 0, 12, 0, []), 3), ((29, 3, 0, 0, []), 0)] 12 _ _ _ (by decide +kernel) ?_
    rcases px_ite h with ⟨c2, h⟩ | ⟨c2, h⟩
    · refine And.intro (fun _ => ?_) (fun hn => absurd c2 hn)
      refine H [((28, 0, 0, 0, []), 1)] 105 _ _ _ (by decide +kernel) ?_
      exact (Prod.mk.inj (Option.some.inj h)).2
    · refine And.intro (fun hp => absurd hp c2) (fun _ => ?_)
      obtain ⟨g3, h⟩ := px_gd h
      refine And.intro g3 ?_
      obtain ⟨g4, h⟩ := px_gd h
      refine And.intro g4 ?_
      rcases px_ite h with ⟨c5, h⟩ | ⟨c5, h⟩
      · refine And.intro (fun hp => absurd c5 hp) (fun _ => ?_)
        exact ih _ _ h
      · refine And.intro (fun _ => ?_) (fun hn => absurd c5 hn)
        refine H [((2, 0, 0, 0, []), 1), ((1, 3, 0, 0, []), 1), ((23, 193, 1, 0, [(0, 84)]), 3), ((2, 0, 0, 0, []), 1), ((17, 84, 118, 0, []), 3), ((1, 3, 0, 0, []), 1), ((0, 0, 0, 0, []), 1), ((20, 118, 20, 0, []), 1), ((2, 0, 0, 0, []), 1), ((17, 84, 123, 0, []), 3), ((1, 3, 0, 0, []), 1), ((2, 0, 0, 0, []), 1), ((17, 84, 123, 0, []), 3), ((1, 3, 0, 0, []), 1), ((19, 123, 20, 0, []), 1), ((0, 0, 0, 1, []), 1), ((6, 0, 0, 0, []), 1), ((20, 123, 20, 0, []), 1), ((2, 0, 0, 0, []), 1), ((2, 0, 0, 0, []), 1), ((16, 84, 65, 0, []), 3), ((0, 0, 0, 1, []), 1), ((6, 0, 0, 0, []), 1), ((18, 84, 65, 0, []), 3), ((2, 0, 0, 0, []), 1), ((17, 84, 88, 0, []), 3), ((1, 3, 0, 0, []), 1), ((19, 88, 20, 0, []), 1), ((0, 0, 0, 3, []), 1), ((13, 1, 99, 0, []), 3), ((2, 0, 0, 0, []), 1), ((17, 84, 126, 0, []), 3), ((1, 3, 0, 0, []), 1), ((19, 126, 20, 0, []), 1), ((14, 0, 99, 0, []), 3), ((2, 0, 0, 0, []), 1), ((1, 3, 0, 0, []), 1), ((23, 196, 1, 0, [(0, 84)]), 3), ((5, 2, 0, 1, []), 3), ((12, 0, 12, 0, []), 3), ((29, 3, 0, 0, []), 0)] 39 _ _ _ (by decide +kernel) ?_
        obtain ⟨⟨vq6, σq6⟩, hq6, h⟩ := px_bind h
        dsimp only at h
        refine Exists.intro 3 (Exists.intro vq6 (Exists.intro σq6 (And.intro (Nat.le_of_ble_eq_true rfl) (And.intro (ok_M_listsThoseBy_84 hq6) ?_))))
        obtain ⟨g7, h⟩ := px_gd h
        refine And.intro g7 ?_
        obtain ⟨g8, h⟩ := px_gd h
        refine And.intro g8 ?_
        obtain ⟨g9, h⟩ := px_gd h
        refine And.intro g9 ?_
        obtain ⟨g10, h⟩ := px_gd h
        refine And.intro g10 ?_
        rcases px_ite h with ⟨c11, h⟩ | ⟨c11, h⟩
        · refine And.intro (fun hp => absurd c11 hp) (fun _ => ?_)
          obtain ⟨g12, h⟩ := px_gd h
          refine And.intro g12 ?_
          rcases px_ite h with ⟨c13, h⟩ | ⟨c13, h⟩
          · refine And.intro (fun _ => ?_) (fun hn => absurd c13 hn)
            refine H [((5, 2, 0, 1, []), 3), ((12, 0, 12, 0, []), 3), ((29, 3, 0, 0, []), 0)] 99 _ _ _ (by decide +kernel) ?_
            exact ih _ _ h
          · refine And.intro (fun hp => absurd hp c13) (fun _ => ?_)
            obtain ⟨⟨vq14, σq14⟩, hq14, h⟩ := px_bind h
            dsimp only at h
            refine Exists.intro 0 (Exists.intro vq14 (Exists.intro σq14 (And.intro (Nat.le_of_ble_eq_true rfl) (And.intro (ok_M_undoesTo_84 hq14) ?_))))
            exact ih _ _ h
        · refine And.intro (fun _ => ?_) (fun hn => absurd c11 hn)
          refine H [((5, 2, 0, 1, []), 3), ((12, 0, 12, 0, []), 3), ((29, 3, 0, 0, []), 0)] 99 _ _ _ (by decide +kernel) ?_
          exact ih _ _ h
theorem ok_M_replaysAll_84_w {l : Launch} {rv : Int} {rσ : pS} {G : Nat → pL → List pV → pS → Prop} (H : px_R l 4 191 rv rσ G) : ∀ (a1 : Int) (σ : pS), f_M_replaysAll_84 a1 σ = some (rv, rσ) → G 0 [some (.inr 84), some (.inl a1), none, none] [] σ := by
  intro a1 σ h
  unfold f_M_replaysAll_84 at h
  refine H [((2, 0, 0, 0, []), 1), ((0, 0, 0, 0, []), 1), ((18, 84, 72, 0, []), 3), ((2, 0, 0, 0, []), 1), ((1, 1, 0, 0, []), 1), ((23, 192, 1, 0, [(0, 84)]), 3), ((0, 0, 0, 0, []), 1), ((3, 2, 0, 0, []), 1), ((29, 1, 0, 0, []), 0)] 0 _ _ _ (by decide +kernel) ?_
  obtain ⟨⟨vq1, σq1⟩, hq1, h⟩ := px_bind h
  dsimp only at h
  refine Exists.intro 0 (Exists.intro vq1 (Exists.intro σq1 (And.intro (Nat.le_of_ble_eq_true rfl) (And.intro (ok_M_lists_84 hq1) ?_))))
  exact ok_M_replaysAll_84_p12 H _ _ _ h
theorem ok_M_replaysAll_84 {l : Launch} {a1 : Int} {σ : pS} {v : Int} {σ1 : pS} (h : f_M_replaysAll_84 a1 σ = some (v, σ1)) : Con l 4 191 [.inr 84, .inl a1] σ v σ1 := Con_mk 2 4 rfl (by decide +kernel) (fun _ H => ok_M_replaysAll_84_w H _ _ h)
theorem ok_M_min_w {l : Launch} {rv : Int} {rσ : pS} {G : Nat → pL → List pV → pS → Prop} (H : px_R l 0 190 rv rσ G) : ∀ (a0 a1 : Int) (σ : pS), f_M_min a0 a1 σ = some (rv, rσ) → G 0 [some (.inl a0), some (.inl a1)] [] σ := by
  intro a0 a1 σ h
  unfold f_M_min at h
  refine H [((1, 0, 0, 0, []), 1), ((1, 1, 0, 0, []), 1), ((13, 3, 9, 0, []), 3), ((1, 0, 0, 0, []), 1), ((12, 0, 10, 0, []), 3), ((27, 0, 0, 0, []), 1)] 0 _ _ _ (by decide +kernel) ?_
  rcases px_ite h with ⟨c1, h⟩ | ⟨c1, h⟩
  · refine And.intro (fun _ => ?_) (fun hn => absurd c1 hn)
    refine H [((1, 1, 0, 0, []), 1), ((27, 0, 0, 0, []), 1)] 9 _ _ _ (by decide +kernel) ?_
    exact Prod.mk.inj (Option.some.inj h)
  · refine And.intro (fun hp => absurd hp c1) (fun _ => ?_)
    exact Prod.mk.inj (Option.some.inj h)
theorem ok_M_min {l : Launch} {a0 a1 : Int} {σ : pS} {v : Int} {σ1 : pS} (h : f_M_min a0 a1 σ = some (v, σ1)) : Con l 0 190 [.inl a0, .inl a1] σ v σ1 := Con_mk 2 2 rfl (by decide +kernel) (fun _ H => ok_M_min_w H _ _ _ h)
theorem ok_M_melts_84_p41 {l : Launch} {rv : Int} {rσ : pS} {G : Nat → pL → List pV → pS → Prop} (H : px_R l 1 189 rv rσ G) : ∀ (a1 a2 s0 : Int) (σ : pS), f_M_melts_84_p41 a1 a2 s0 σ = some (rv, rσ) → G 41 [some (.inr 84), some (.inl a1), some (.inl a2), none, none, none] [.inl s0] σ := by
  intro a1 a2 s0 σ h
  unfold f_M_melts_84_p41 at h
  refine H [((3, 5, 0, 0, []), 2), ((1, 5, 0, 0, []), 2), ((0, 0, 0, (-1), []), 1), ((13, 1, 68, 0, []), 3), ((2, 0, 0, 0, []), 1), ((16, 84, 3, 0, []), 3), ((3, 5, 0, 0, []), 2), ((2, 0, 0, 0, []), 1), ((2, 0, 0, 0, []), 1), ((16, 84, 3, 0, []), 3), ((0, 0, 0, 1, []), 1), ((6, 0, 0, 0, []), 1), ((0, 0, 0, 16, []), 2), ((7, 1, 0, 0, []), 1), ((18, 84, 3, 0, []), 3), ((2, 0, 0, 0, []), 1), ((17, 84, 87, 0, []), 3), ((1, 1, 0, 0, []), 1), ((1, 5, 0, 0, []), 2), ((20, 87, 20, 0, []), 1), ((2, 0, 0, 0, []), 1), ((17, 84, 87, 0, []), 3), ((1, 2, 0, 0, []), 1), ((1, 5, 0, 0, []), 2), ((20, 87, 20, 0, []), 1), ((28, 0, 0, 0, []), 1)] 41 _ _ _ (by decide +kernel) ?_
  rcases px_ite h with ⟨c6, h⟩ | ⟨c6, h⟩
  · refine And.intro (fun hp => absurd c6 hp) (fun _ => ?_)
    refine And.intro (show (16 : Int) ≠ 0 from by decide) (fun r9 hr9 => ?_)
    replace hr9 : r9 = pRem (pw ((σ 84 3) + 1)) 16 := hr9.trans (px_dr_1 _ _)
    try rw [← hr9] at h
    obtain ⟨g10, h⟩ := px_gd h
    refine And.intro g10 ?_
    obtain ⟨g11, h⟩ := px_gd h
    refine And.intro g11 ?_
    exact (Prod.mk.inj (Option.some.inj h)).2
  · refine And.intro (fun _ => ?_) (fun hn => absurd c6 hn)
    refine H [((2, 0, 0, 0, []), 1), ((17, 84, 87, 0, []), 3), ((1, 1, 0, 0, []), 1), ((1, 5, 0, 0, []), 2), ((20, 87, 20, 0, []), 1), ((2, 0, 0, 0, []), 1), ((17, 84, 87, 0, []), 3), ((1, 2, 0, 0, []), 1), ((1, 5, 0, 0, []), 2), ((20, 87, 20, 0, []), 1), ((28, 0, 0, 0, []), 1)] 68 _ _ _ (by decide +kernel) ?_
    obtain ⟨g7, h⟩ := px_gd h
    refine And.intro g7 ?_
    obtain ⟨g8, h⟩ := px_gd h
    refine And.intro g8 ?_
    exact (Prod.mk.inj (Option.some.inj h)).2
theorem ok_M_melts_84_w {l : Launch} {rv : Int} {rσ : pS} {G : Nat → pL → List pV → pS → Prop} (H : px_R l 1 189 rv rσ G) : ∀ (a1 a2 : Int) (σ : pS), f_M_melts_84 a1 a2 σ = some (rv, rσ) → G 0 [some (.inr 84), some (.inl a1), some (.inl a2), none, none, none] [] σ := by
  intro a1 a2 σ h
  unfold f_M_melts_84 at h
  refine H [((2, 0, 0, 0, []), 1), ((17, 84, 87, 0, []), 3), ((1, 1, 0, 0, []), 1), ((19, 87, 20, 0, []), 1), ((3, 3, 0, 0, []), 1), ((2, 0, 0, 0, []), 1), ((17, 84, 87, 0, []), 3), ((1, 2, 0, 0, []), 1), ((19, 87, 20, 0, []), 1), ((3, 4, 0, 0, []), 2), ((1, 3, 0, 0, []), 1), ((0, 0, 0, (-1), []), 1), ((13, 1, 25, 0, []), 3), ((1, 4, 0, 0, []), 2), ((12, 0, 41, 0, []), 3), ((29, 3, 0, 0, []), 0), ((29, 4, 0, 0, []), 0)] 0 _ _ _ (by decide +kernel) ?_
  obtain ⟨g1, h⟩ := px_gd h
  refine And.intro g1 ?_
  obtain ⟨g2, h⟩ := px_gd h
  refine And.intro g2 ?_
  rcases px_ite h with ⟨c3, h⟩ | ⟨c3, h⟩
  · refine And.intro (fun hp => absurd c3 hp) (fun _ => ?_)
    exact ok_M_melts_84_p41 H _ _ _ _ h
  · refine And.intro (fun _ => ?_) (fun hn => absurd c3 hn)
    refine H [((1, 4, 0, 0, []), 2), ((0, 0, 0, (-1), []), 1), ((13, 1, 35, 0, []), 3), ((1, 3, 0, 0, []), 1), ((12, 0, 41, 0, []), 3), ((29, 3, 0, 0, []), 0), ((29, 4, 0, 0, []), 0)] 25 _ _ _ (by decide +kernel) ?_
    rcases px_ite h with ⟨c4, h⟩ | ⟨c4, h⟩
    · refine And.intro (fun hp => absurd c4 hp) (fun _ => ?_)
      exact ok_M_melts_84_p41 H _ _ _ _ h
    · refine And.intro (fun _ => ?_) (fun hn => absurd c4 hn)
      refine H [((1, 3, 0, 0, []), 1), ((1, 4, 0, 0, []), 2), ((24, 190, 2, 1, []), 3), ((29, 3, 0, 0, []), 0), ((29, 4, 0, 0, []), 0)] 35 _ _ _ (by decide +kernel) ?_
      obtain ⟨⟨vq5, σq5⟩, hq5, h⟩ := px_bind h
      dsimp only at h
      refine Exists.intro 0 (Exists.intro vq5 (Exists.intro σq5 (And.intro (Nat.le_of_ble_eq_true rfl) (And.intro (ok_M_min hq5) ?_))))
      exact ok_M_melts_84_p41 H _ _ _ _ h
theorem ok_M_melts_84 {l : Launch} {a1 a2 : Int} {σ : pS} {v : Int} {σ1 : pS} (h : f_M_melts_84 a1 a2 σ = some (v, σ1)) : Con l 1 189 [.inr 84, .inl a1, .inl a2] σ v σ1 := Con_mk 3 6 rfl (by decide +kernel) (fun _ H => ok_M_melts_84_w H _ _ _ h)
theorem ok_M_tookOld_84_p2 {l : Launch} {rv : Int} {rσ : pS} {G : Nat → pL → List pV → pS → Prop} (H : px_R l 1 188 rv rσ G) : ∀ (n : Nat) (a1 a2 a3 : Int) (σ : pS), f_M_tookOld_84_p2 n a1 a2 a3 σ = some (rv, rσ) → G 2 [some (.inr 84), some (.inl a1), some (.inl a2), some (.inl a3)] [] σ := by
  intro n
  induction n with
  | zero =>
    intro a1 a2 a3 σ h
    unfold f_M_tookOld_84_p2 at h
    cases h
  | succ n ih =>
    intro a1 a2 a3 σ h
    unfold f_M_tookOld_84_p2 at h
    refine H [((1, 3, 0, 0, []), 1), ((2, 0, 0, 0, []), 1), ((17, 84, 93, 0, []), 3), ((1, 1, 0, 0, []), 1), ((19, 93, 20, 0, []), 1), ((13, 3, 53, 0, []), 3), ((2, 0, 0, 0, []), 1), ((1, 2, 0, 0, []), 1), ((2, 0, 0, 0, []), 1), ((17, 84, 121, 0, []), 3), ((1, 1, 0, 0, []), 1), ((19, 121, 20, 0, []), 1), ((1, 3, 0, 0, []), 1), ((6, 0, 0, 0, []), 1), ((0, 0, 0, 63, []), 2), ((6, 3, 0, 0, []), 1), ((23, 184, 2, 1, [(0, 84)]), 3), ((14, 0, 47, 0, []), 3), ((2, 0, 0, 0, []), 1), ((17, 84, 124, 0, []), 3), ((0, 0, 0, 4, []), 1), ((1, 1, 0, 0, []), 1), ((6, 2, 0, 0, []), 1), ((1, 3, 0, 0, []), 1), ((6, 0, 0, 0, []), 1), ((19, 124, 80, 0, []), 1), ((1, 2, 0, 0, []), 1), ((13, 3, 47, 0, []), 3), ((0, 0, 0, 1, []), 1), ((27, 1, 0, 0, []), 1)] 2 _ _ _ (by decide +kernel) ?_
    obtain ⟨g1, h⟩ := px_gd h
    refine And.intro g1 ?_
    rcases px_ite h with ⟨c2, h⟩ | ⟨c2, h⟩
    · refine And.intro (fun _ => ?_) (fun hn => absurd c2 hn)
      refine H [((0, 0, 0, 0, []), 1), ((27, 1, 0, 0, []), 1)] 53 _ _ _ (by decide +kernel) ?_
      refine And.intro (show (0 : Int) ≤ 0 ∧ (0 : Int) ≤ 1 from by decide) ?_
      exact Prod.mk.inj (Option.some.inj h)
    · refine And.intro (fun hp => absurd hp c2) (fun _ => ?_)
      obtain ⟨g3, h⟩ := px_gd h
      refine And.intro g3 ?_
      obtain ⟨⟨vq4, σq4⟩, hq4, h⟩ := px_bind h
      dsimp only at h
      refine Exists.intro 0 (Exists.intro vq4 (Exists.intro σq4 (And.intro (Nat.le_of_ble_eq_true rfl) (And.intro (ok_M_covers_84 hq4) ?_))))
      rcases px_ite h with ⟨c5, h⟩ | ⟨c5, h⟩
      · refine And.intro (fun _ => ?_) (fun hn => absurd c5 hn)
        refine H [((5, 3, 0, 1, []), 3), ((12, 0, 2, 0, []), 3)] 47 _ _ _ (by decide +kernel) ?_
        exact ih _ _ _ _ h
      · refine And.intro (fun hp => absurd hp c5) (fun _ => ?_)
        obtain ⟨g6, h⟩ := px_gd h
        refine And.intro g6 ?_
        rcases px_ite h with ⟨c7, h⟩ | ⟨c7, h⟩
        · refine And.intro (fun _ => ?_) (fun hn => absurd c7 hn)
          refine H [((5, 3, 0, 1, []), 3), ((12, 0, 2, 0, []), 3)] 47 _ _ _ (by decide +kernel) ?_
          exact ih _ _ _ _ h
        · refine And.intro (fun hp => absurd hp c7) (fun _ => ?_)
          refine And.intro (show (0 : Int) ≤ 1 ∧ (1 : Int) ≤ 1 from by decide) ?_
          exact Prod.mk.inj (Option.some.inj h)
theorem ok_M_tookOld_84_w {l : Launch} {rv : Int} {rσ : pS} {G : Nat → pL → List pV → pS → Prop} (H : px_R l 1 188 rv rσ G) : ∀ (a1 a2 : Int) (σ : pS), f_M_tookOld_84 a1 a2 σ = some (rv, rσ) → G 0 [some (.inr 84), some (.inl a1), some (.inl a2), none] [] σ := by
  intro a1 a2 σ h
  unfold f_M_tookOld_84 at h
  refine H [((0, 0, 0, 0, []), 1), ((3, 3, 0, 0, []), 1)] 0 _ _ _ (by decide +kernel) ?_
  exact ok_M_tookOld_84_p2 H _ _ _ _ _ h
theorem ok_M_tookOld_84 {l : Launch} {a1 a2 : Int} {σ : pS} {v : Int} {σ1 : pS} (h : f_M_tookOld_84 a1 a2 σ = some (v, σ1)) : Con l 1 188 [.inr 84, .inl a1, .inl a2] σ v σ1 := Con_mk 3 4 rfl (by decide +kernel) (fun _ H => ok_M_tookOld_84_w H _ _ _ h)
