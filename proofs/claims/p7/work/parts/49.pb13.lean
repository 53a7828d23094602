theorem ok_M_looksBack_84_p99 {l : Launch} {rv : Int} {rσ : pS} {G : Nat → pL → List pV → pS → Prop} (H : px_R l 5 187 rv rσ G) : ∀ (n : Nat) (a2 a3 : Int) (σ : pS), f_M_looksBack_84_p99 n a2 a3 σ = some (rv, rσ) → G 99 [some (.inr 84), none, some (.inl a2), some (.inl a3)] [] σ := by
  intro n
  induction n with
  | zero =>
    intro a2 a3 σ h
    unfold f_M_looksBack_84_p99 at h
    cases h
  | succ n ih =>
    intro a2 a3 σ h
    unfold f_M_looksBack_84_p99 at h
    refine H [((1, 3, 0, 0, []), 1), ((1, 2, 0, 0, []), 1), ((13, 3, 134, 0, []), 3), ((2, 0, 0, 0, []), 1), ((17, 84, 118, 0, []), 3), ((2, 0, 0, 0, []), 1), ((17, 84, 133, 0, []), 3), ((1, 3, 0, 0, []), 1), ((19, 133, 20, 0, []), 1), ((19, 118, 20, 0, []), 1), ((14, 0, 128, 0, []), 3), ((2, 0, 0, 0, []), 1), ((2, 0, 0, 0, []), 1), ((17, 84, 133, 0, []), 3), ((1, 3, 0, 0, []), 1), ((19, 133, 20, 0, []), 1), ((23, 191, 1, 0, [(0, 84)]), 3), ((5, 3, 0, 1, []), 3), ((12, 0, 99, 0, []), 3)] 99 _ _ _ (by decide +kernel) ?_
    rcases px_ite h with ⟨c3, h⟩ | ⟨c3, h⟩
    · refine And.intro (fun _ => ?_) (fun hn => absurd c3 hn)
      refine H [((28, 0, 0, 0, []), 1)] 134 _ _ _ (by decide +kernel) ?_
      exact (Prod.mk.inj (Option.some.inj h)).2
    · refine And.intro (fun hp => absurd hp c3) (fun _ => ?_)
      obtain ⟨g4, h⟩ := px_gd h
      refine And.intro g4 ?_
      obtain ⟨g5, h⟩ := px_gd h
      refine And.intro g5 ?_
      rcases px_ite h with ⟨c6, h⟩ | ⟨c6, h⟩
      · refine And.intro (fun _ => ?_) (fun hn => absurd c6 hn)
        refine H [((5, 3, 0, 1, []), 3), ((12, 0, 99, 0, []), 3)] 128 _ _ _ (by decide +kernel) ?_
        exact ih _ _ _ h
      · refine And.intro (fun hp => absurd hp c6) (fun _ => ?_)
        obtain ⟨g7, h⟩ := px_gd h
        refine And.intro g7 ?_
        obtain ⟨⟨vq8, σq8⟩, hq8, h⟩ := px_bind h
        dsimp only at h
        refine Exists.intro 4 (Exists.intro vq8 (Exists.intro σq8 (And.intro (Nat.le_of_ble_eq_true rfl) (And.intro (ok_M_replaysAll_84 hq8) ?_))))
        exact ih _ _ _ h
theorem ok_M_looksBack_84_p75 {l : Launch} {rv : Int} {rσ : pS} {G : Nat → pL → List pV → pS → Prop} (H : px_R l 5 187 rv rσ G) : ∀ (n : Nat) (a1 a2 a3 : Int) (σ : pS), f_M_looksBack_84_p75 n a1 a2 a3 σ = some (rv, rσ) → G 75 [some (.inr 84), some (.inl a1), some (.inl a2), some (.inl a3)] [] σ := by
  intro n
  induction n with
  | zero =>
    intro a1 a2 a3 σ h
    unfold f_M_looksBack_84_p75 at h
    cases h
  | succ n ih =>
    intro a1 a2 a3 σ h
    unfold f_M_looksBack_84_p75 at h
    refine H [((1, 3, 0, 0, []), 1), ((1, 2, 0, 0, []), 1), ((13, 3, 97, 0, []), 3), ((2, 0, 0, 0, []), 1), ((2, 0, 0, 0, []), 1), ((17, 84, 133, 0, []), 3), ((1, 3, 0, 0, []), 1), ((19, 133, 20, 0, []), 1), ((1, 1, 0, 0, []), 1), ((23, 189, 2, 0, [(0, 84)]), 3), ((5, 3, 0, 1, []), 3), ((12, 0, 75, 0, []), 3)] 75 _ _ _ (by decide +kernel) ?_
    rcases px_ite h with ⟨c2, h⟩ | ⟨c2, h⟩
    · refine And.intro (fun _ => ?_) (fun hn => absurd c2 hn)
      refine H [((0, 0, 0, 0, []), 1), ((3, 3, 0, 0, []), 1), ((29, 1, 0, 0, []), 0)] 97 _ _ _ (by decide +kernel) ?_
      exact ok_M_looksBack_84_p99 H _ _ _ _ h
    · refine And.intro (fun hp => absurd hp c2) (fun _ => ?_)
      obtain ⟨g9, h⟩ := px_gd h
      refine And.intro g9 ?_
      obtain ⟨⟨vq10, σq10⟩, hq10, h⟩ := px_bind h
      dsimp only at h
      refine Exists.intro 1 (Exists.intro vq10 (Exists.intro σq10 (And.intro (Nat.le_of_ble_eq_true rfl) (And.intro (ok_M_melts_84 hq10) ?_))))
      exact ih _ _ _ _ h
theorem ok_M_looksBack_84_p6 {l : Launch} {rv : Int} {rσ : pS} {G : Nat → pL → List pV → pS → Prop} (H : px_R l 5 187 rv rσ G) : ∀ (n : Nat) (a1 a2 a3 : Int) (σ : pS), f_M_looksBack_84_p6 n a1 a2 a3 σ = some (rv, rσ) → G 6 [some (.inr 84), some (.inl a1), some (.inl a2), some (.inl a3)] [] σ := by
  intro n
  induction n with
  | zero =>
    intro a1 a2 a3 σ h
    unfold f_M_looksBack_84_p6 at h
    cases h
  | succ n ih =>
    intro a1 a2 a3 σ h
    unfold f_M_looksBack_84_p6 at h
    refine H [((1, 3, 0, 0, []), 1), ((2, 0, 0, 0, []), 1), ((16, 84, 2, 0, []), 3), ((13, 3, 63, 0, []), 3), ((2, 0, 0, 0, []), 1), ((17, 84, 88, 0, []), 3), ((1, 3, 0, 0, []), 1), ((19, 88, 20, 0, []), 1), ((0, 0, 0, 2, []), 1), ((13, 1, 57, 0, []), 3), ((2, 0, 0, 0, []), 1), ((17, 84, 118, 0, []), 3), ((1, 3, 0, 0, []), 1), ((19, 118, 20, 0, []), 1), ((0, 0, 0, 2, []), 1), ((13, 1, 57, 0, []), 3), ((2, 0, 0, 0, []), 1), ((1, 3, 0, 0, []), 1), ((1, 1, 0, 0, []), 1), ((23, 188, 2, 1, [(0, 84)]), 3), ((14, 1, 46, 0, []), 3), ((12, 0, 57, 0, []), 3), ((5, 3, 0, 1, []), 3), ((12, 0, 6, 0, []), 3)] 6 _ _ _ (by decide +kernel) ?_
    rcases px_ite h with ⟨c1, h⟩ | ⟨c1, h⟩
    · refine And.intro (fun _ => ?_) (fun hn => absurd c1 hn)
      refine H [((2, 0, 0, 0, []), 1), ((2, 0, 0, 0, []), 1), ((16, 84, 64, 0, []), 3), ((1, 2, 0, 0, []), 1), ((6, 0, 0, 0, []), 1), ((18, 84, 64, 0, []), 3), ((0, 0, 0, 0, []), 1), ((3, 3, 0, 0, []), 1)] 63 _ _ _ (by decide +kernel) ?_
      exact ok_M_looksBack_84_p75 H _ _ _ _ _ h
    · refine And.intro (fun hp => absurd hp c1) (fun _ => ?_)
      obtain ⟨g11, h⟩ := px_gd h
      refine And.intro g11 ?_
      rcases px_ite h with ⟨c12, h⟩ | ⟨c12, h⟩
      · refine And.intro (fun hp => absurd c12 hp) (fun _ => ?_)
        obtain ⟨g13, h⟩ := px_gd h
        refine And.intro g13 ?_
        rcases px_ite h with ⟨c14, h⟩ | ⟨c14, h⟩
        · refine And.intro (fun hp => absurd c14 hp) (fun _ => ?_)
          obtain ⟨⟨vq15, σq15⟩, hq15, h⟩ := px_bind h
          dsimp only at h
          refine Exists.intro 1 (Exists.intro vq15 (Exists.intro σq15 (And.intro (Nat.le_of_ble_eq_true rfl) (And.intro (ok_M_tookOld_84 hq15) ?_))))
          rcases px_ite h with ⟨c16, h⟩ | ⟨c16, h⟩
          · refine And.intro (fun hp => absurd c16 hp) (fun _ => ?_)
            exact ih _ _ _ _ h
          · refine And.intro (fun _ => ?_) (fun hn => absurd c16 hn)
            refine H [((2, 0, 0, 0, []), 1), ((17, 84, 133, 0, []), 3), ((1, 2, 0, 0, []), 1), ((1, 3, 0, 0, []), 1), ((20, 133, 20, 0, []), 1), ((1, 2, 0, 0, []), 1), ((0, 0, 0, 1, []), 1), ((6, 0, 0, 0, []), 1), ((3, 2, 0, 0, []), 1), ((5, 3, 0, 1, []), 3), ((12, 0, 6, 0, []), 3)] 46 _ _ _ (by decide +kernel) ?_
            obtain ⟨g17, h⟩ := px_gd h
            refine And.intro g17 ?_
            exact ih _ _ _ _ h
        · refine And.intro (fun _ => ?_) (fun hn => absurd c14 hn)
          refine H [((5, 3, 0, 1, []), 3), ((12, 0, 6, 0, []), 3)] 57 _ _ _ (by decide +kernel) ?_
          exact ih _ _ _ _ h
      · refine And.intro (fun _ => ?_) (fun hn => absurd c12 hn)
        refine H [((5, 3, 0, 1, []), 3), ((12, 0, 6, 0, []), 3)] 57 _ _ _ (by decide +kernel) ?_
        exact ih _ _ _ _ h
theorem ok_M_looksBack_84_w {l : Launch} {rv : Int} {rσ : pS} {G : Nat → pL → List pV → pS → Prop} (H : px_R l 5 187 rv rσ G) : ∀ (a1 : Int) (σ : pS), f_M_looksBack_84 a1 σ = some (rv, rσ) → G 0 [some (.inr 84), some (.inl a1), none, none] [] σ := by
  intro a1 σ h
  unfold f_M_looksBack_84 at h
  refine H [((0, 0, 0, 0, []), 1), ((3, 2, 0, 0, []), 1), ((1, 1, 0, 0, []), 1), ((0, 0, 0, 1, []), 1), ((6, 0, 0, 0, []), 1), ((3, 3, 0, 0, []), 1)] 0 _ _ _ (by decide +kernel) ?_
  exact ok_M_looksBack_84_p6 H _ _ _ _ _ h
theorem ok_M_looksBack_84 {l : Launch} {a1 : Int} {σ : pS} {v : Int} {σ1 : pS} (h : f_M_looksBack_84 a1 σ = some (v, σ1)) : Con l 5 187 [.inr 84, .inl a1] σ v σ1 := Con_mk 2 4 rfl (by decide +kernel) (fun _ H => ok_M_looksBack_84_w H _ _ h)
theorem ok_M_comesDone_84_w {l : Launch} {rv : Int} {rσ : pS} {G : Nat → pL → List pV → pS → Prop} (H : px_R l 6 179 rv rσ G) : ∀ (a1 a2 : Int) (σ : pS), f_M_comesDone_84 a1 a2 σ = some (rv, rσ) → G 0 [some (.inr 84), some (.inl a1), some (.inl a2)] [] σ := by
  intro a1 a2 σ h
  unfold f_M_comesDone_84 at h
  refine H [((2, 0, 0, 0, []), 1), ((17, 84, 118, 0, []), 3), ((1, 1, 0, 0, []), 1), ((0, 0, 0, 2, []), 1), ((20, 118, 20, 0, []), 1), ((2, 0, 0, 0, []), 1), ((17, 84, 122, 0, []), 3), ((1, 1, 0, 0, []), 1), ((1, 2, 0, 0, []), 1), ((20, 122, 20, 0, []), 1), ((2, 0, 0, 0, []), 1), ((17, 84, 88, 0, []), 3), ((1, 1, 0, 0, []), 1), ((19, 88, 20, 0, []), 1), ((15, 0, 122, 0, [(0, 48), (1, 63), (2, 103)]), 28)] 0 _ _ _ (by decide +kernel) ?_
  obtain ⟨g1, h⟩ := px_gd h
  refine And.intro g1 ?_
  obtain ⟨g2, h⟩ := px_gd h
  refine And.intro g2 ?_
  obtain ⟨g3, h⟩ := px_gd h
  refine And.intro g3 ?_
  rcases px_ite h with ⟨c4, h⟩ | ⟨c4, h⟩
  · refine And.intro (fun _ => ?_) (fun hn => absurd c4 hn)
    refine H [((2, 0, 0, 0, []), 1), ((17, 84, 120, 0, []), 3), ((1, 1, 0, 0, []), 1), ((2, 0, 0, 0, []), 1), ((17, 84, 95, 0, []), 3), ((1, 1, 0, 0, []), 1), ((19, 95, 20, 0, []), 1), ((20, 120, 20, 0, []), 1), ((12, 0, 164, 0, []), 3), ((28, 0, 0, 0, []), 1)] 48 _ _ _ (by decide +kernel) ?_
    obtain ⟨g5, h⟩ := px_gd h
    refine And.intro g5 ?_
    obtain ⟨g6, h⟩ := px_gd h
    refine And.intro g6 ?_
    exact (Prod.mk.inj (Option.some.inj h)).2
  · refine And.intro (fun hp => absurd hp c4) (fun _ => ?_)
    rcases px_ite h with ⟨c7, h⟩ | ⟨c7, h⟩
    · refine And.intro (fun _ => ?_) (fun hn => absurd c7 hn)
      refine H [((2, 0, 0, 0, []), 1), ((17, 84, 120, 0, []), 3), ((1, 1, 0, 0, []), 1), ((2, 0, 0, 0, []), 1), ((17, 84, 89, 0, []), 3), ((1, 1, 0, 0, []), 1), ((19, 89, 20, 0, []), 1), ((2, 0, 0, 0, []), 1), ((1, 1, 0, 0, []), 1), ((2, 0, 0, 0, []), 1), ((17, 84, 91, 0, []), 3), ((1, 1, 0, 0, []), 1), ((19, 91, 20, 0, []), 1), ((23, 180, 2, 1, [(0, 84)]), 3), ((2, 0, 0, 0, []), 1), ((1, 1, 0, 0, []), 1), ((2, 0, 0, 0, []), 1), ((17, 84, 92, 0, []), 3), ((1, 1, 0, 0, []), 1), ((19, 92, 20, 0, []), 1), ((23, 180, 2, 1, [(0, 84)]), 3), ((24, 181, 3, 1, []), 3), ((20, 120, 20, 0, []), 1), ((12, 0, 164, 0, []), 3), ((28, 0, 0, 0, []), 1)] 63 _ _ _ (by decide +kernel) ?_
      obtain ⟨g8, h⟩ := px_gd h
      refine And.intro g8 ?_
      obtain ⟨g9, h⟩ := px_gd h
      refine And.intro g9 ?_
      obtain ⟨⟨vq10, σq10⟩, hq10, h⟩ := px_bind h
      dsimp only at h
      refine Exists.intro 2 (Exists.intro vq10 (Exists.intro σq10 (And.intro (Nat.le_of_ble_eq_true rfl) (And.intro (ok_M_readBy_84 hq10) ?_))))
      obtain ⟨g11, h⟩ := px_gd h
      refine And.intro g11 ?_
      obtain ⟨⟨vq12, σq12⟩, hq12, h⟩ := px_bind h
      dsimp only at h
      refine Exists.intro 2 (Exists.intro vq12 (Exists.intro σq12 (And.intro (Nat.le_of_ble_eq_true rfl) (And.intro (ok_M_readBy_84 hq12) ?_))))
      obtain ⟨⟨vq13, σq13⟩, hq13, h⟩ := px_bind h
      dsimp only at h
      refine Exists.intro 0 (Exists.intro vq13 (Exists.intro σq13 (And.intro (Nat.le_of_ble_eq_true rfl) (And.intro (ok_M_reckoned hq13) ?_))))
      obtain ⟨g14, h⟩ := px_gd h
      refine And.intro g14 ?_
      exact (Prod.mk.inj (Option.some.inj h)).2
    · refine And.intro (fun hp => absurd hp c7) (fun _ => ?_)
      rcases px_ite h with ⟨c15, h⟩ | ⟨c15, h⟩
      · refine And.intro (fun _ => ?_) (fun hn => absurd c15 hn)
        refine H [((2, 0, 0, 0, []), 1), ((17, 84, 121, 0, []), 3), ((1, 1, 0, 0, []), 1), ((2, 0, 0, 0, []), 1), ((1, 1, 0, 0, []), 1), ((23, 182, 1, 1, [(0, 84)]), 3), ((20, 121, 20, 0, []), 1), ((2, 0, 0, 0, []), 1), ((1, 1, 0, 0, []), 1), ((23, 183, 1, 0, [(0, 84)]), 3), ((12, 0, 164, 0, []), 3), ((28, 0, 0, 0, []), 1)] 103 _ _ _ (by decide +kernel) ?_
        obtain ⟨⟨vq16, σq16⟩, hq16, h⟩ := px_bind h
        dsimp only at h
        refine Exists.intro 3 (Exists.intro vq16 (Exists.intro σq16 (And.intro (Nat.le_of_ble_eq_true rfl) (And.intro (ok_M_placeBy_84 hq16) ?_))))
        obtain ⟨g17, h⟩ := px_gd h
        refine And.intro g17 ?_
        obtain ⟨⟨vq18, σq18⟩, hq18, h⟩ := px_bind h
        dsimp only at h
        refine Exists.intro 1 (Exists.intro vq18 (Exists.intro σq18 (And.intro (Nat.le_of_ble_eq_true rfl) (And.intro (ok_M_loads_84 hq18) ?_))))
        exact (Prod.mk.inj (Option.some.inj h)).2
      · refine And.intro (fun hp => absurd hp c15) (fun _ => ?_)
        refine H [((2, 0, 0, 0, []), 1), ((17, 84, 121, 0, []), 3), ((1, 1, 0, 0, []), 1), ((2, 0, 0, 0, []), 1), ((1, 1, 0, 0, []), 1), ((23, 182, 1, 1, [(0, 84)]), 3), ((20, 121, 20, 0, []), 1), ((2, 0, 0, 0, []), 1), ((17, 84, 120, 0, []), 3), ((1, 1, 0, 0, []), 1), ((2, 0, 0, 0, []), 1), ((1, 1, 0, 0, []), 1), ((2, 0, 0, 0, []), 1), ((17, 84, 90, 0, []), 3), ((1, 1, 0, 0, []), 1), ((19, 90, 20, 0, []), 1), ((23, 180, 2, 1, [(0, 84)]), 3), ((2, 0, 0, 0, []), 1), ((17, 84, 93, 0, []), 3), ((1, 1, 0, 0, []), 1), ((19, 93, 20, 0, []), 1), ((24, 186, 2, 1, []), 3), ((20, 120, 20, 0, []), 1), ((2, 0, 0, 0, []), 1), ((1, 1, 0, 0, []), 1), ((23, 187, 1, 0, [(0, 84)]), 3), ((28, 0, 0, 0, []), 1)] 122 _ _ _ (by decide +kernel) ?_
        obtain ⟨⟨vq19, σq19⟩, hq19, h⟩ := px_bind h
        dsimp only at h
        refine Exists.intro 3 (Exists.intro vq19 (Exists.intro σq19 (And.intro (Nat.le_of_ble_eq_true rfl) (And.intro (ok_M_placeBy_84 hq19) ?_))))
        obtain ⟨g20, h⟩ := px_gd h
        refine And.intro g20 ?_
        obtain ⟨g21, h⟩ := px_gd h
        refine And.intro g21 ?_
        obtain ⟨⟨vq22, σq22⟩, hq22, h⟩ := px_bind h
        dsimp only at h
        refine Exists.intro 2 (Exists.intro vq22 (Exists.intro σq22 (And.intro (Nat.le_of_ble_eq_true rfl) (And.intro (ok_M_readBy_84 hq22) ?_))))
        obtain ⟨g23, h⟩ := px_gd h
        refine And.intro g23 ?_
        obtain ⟨⟨vq24, σq24⟩, hq24, h⟩ := px_bind h
        dsimp only at h
        refine Exists.intro 0 (Exists.intro vq24 (Exists.intro σq24 (And.intro (Nat.le_of_ble_eq_true rfl) (And.intro (ok_M_cut hq24) ?_))))
        obtain ⟨g25, h⟩ := px_gd h
        refine And.intro g25 ?_
        obtain ⟨⟨vq26, σq26⟩, hq26, h⟩ := px_bind h
        dsimp only at h
        refine Exists.intro 5 (Exists.intro vq26 (Exists.intro σq26 (And.intro (Nat.le_of_ble_eq_true rfl) (And.intro (ok_M_looksBack_84 hq26) ?_))))
        exact (Prod.mk.inj (Option.some.inj h)).2
theorem ok_M_comesDone_84 {l : Launch} {a1 a2 : Int} {σ : pS} {v : Int} {σ1 : pS} (h : f_M_comesDone_84 a1 a2 σ = some (v, σ1)) : Con l 6 179 [.inr 84, .inl a1, .inl a2] σ v σ1 := Con_mk 3 3 rfl (by decide +kernel) (fun _ H => ok_M_comesDone_84_w H _ _ _ h)
theorem ok_M_cycleGoes_84_p47 {l : Launch} {rv : Int} {rσ : pS} {G : Nat → pL → List pV → pS → Prop} (H : px_R l 7 178 rv rσ G) : ∀ (n : Nat) (a1 a2 a3 a4 : Int) (σ : pS), f_M_cycleGoes_84_p47 n a1 a2 a3 a4 σ = some (rv, rσ) → G 47 [some (.inr 84), some (.inl a1), some (.inl a2), some (.inl a3), some (.inl a4)] [] σ := by
  intro n
  induction n with
  | zero =>
    intro a1 a2 a3 a4 σ h
    unfold f_M_cycleGoes_84_p47 at h
    cases h
  | succ n ih =>
    intro a1 a2 a3 a4 σ h
    unfold f_M_cycleGoes_84_p47 at h
    refine H [((1, 4, 0, 0, []), 2), ((2, 0, 0, 0, []), 1), ((16, 84, 2, 0, []), 3), ((13, 3, 122, 0, []), 3), ((2, 0, 0, 0, []), 1), ((17, 84, 118, 0, []), 3), ((1, 4, 0, 0, []), 2), ((19, 118, 20, 0, []), 1), ((14, 1, 116, 0, []), 3), ((2, 0, 0, 0, []), 1), ((1, 4, 0, 0, []), 2), ((23, 197, 1, 1, [(0, 84)]), 3), ((14, 1, 78, 0, []), 3), ((12, 0, 116, 0, []), 3), ((5, 4, 0, 1, []), 3), ((12, 0, 47, 0, []), 3)] 47 _ _ _ (by decide +kernel) ?_
    rcases px_ite h with ⟨c2, h⟩ | ⟨c2, h⟩
    · refine And.intro (fun _ => ?_) (fun hn => absurd c2 hn)
      refine H [((2, 0, 0, 0, []), 1), ((1, 1, 0, 0, []), 1), ((23, 205, 1, 0, [(0, 84)]), 3), ((28, 0, 0, 0, []), 1)] 122 _ _ _ (by decide +kernel) ?_
      obtain ⟨⟨vq3, σq3⟩, hq3, h⟩ := px_bind h
      dsimp only at h
      refine Exists.intro 3 (Exists.intro vq3 (Exists.intro σq3 (And.intro (Nat.le_of_ble_eq_true rfl) (And.intro (ok_M_retires_84 hq3) ?_))))
      exact (Prod.mk.inj (Option.some.inj h)).2
    · refine And.intro (fun hp => absurd hp c2) (fun _ => ?_)
      obtain ⟨g4, h⟩ := px_gd h
      refine And.intro g4 ?_
      rcases px_ite h with ⟨c5, h⟩ | ⟨c5, h⟩
      · refine And.intro (fun hp => absurd c5 hp) (fun _ => ?_)
        obtain ⟨⟨vq6, σq6⟩, hq6, h⟩ := px_bind h
        dsimp only at h
        refine Exists.intro 2 (Exists.intro vq6 (Exists.intro σq6 (And.intro (Nat.le_of_ble_eq_true rfl) (And.intro (ok_M_areSourcesDone_84 hq6) ?_))))
        rcases px_ite h with ⟨c7, h⟩ | ⟨c7, h⟩
        · refine And.intro (fun hp => absurd c7 hp) (fun _ => ?_)
          exact ih _ _ _ _ _ h
        · refine And.intro (fun _ => ?_) (fun hn => absurd c7 hn)
          refine H [((2, 0, 0, 0, []), 1), ((1, 4, 0, 0, []), 2), ((23, 198, 1, 1, [(0, 84)]), 3), ((14, 0, 100, 0, []), 3), ((2, 0, 0, 0, []), 1), ((2, 0, 0, 0, []), 1), ((16, 84, 68, 0, []), 3), ((0, 0, 0, 1, []), 1), ((6, 0, 0, 0, []), 1), ((18, 84, 68, 0, []), 3), ((12, 0, 116, 0, []), 3), ((5, 4, 0, 1, []), 3), ((12, 0, 47, 0, []), 3)] 78 _ _ _ (by decide +kernel) ?_
          obtain ⟨⟨vq8, σq8⟩, hq8, h⟩ := px_bind h
          dsimp only at h
          refine Exists.intro 1 (Exists.intro vq8 (Exists.intro σq8 (And.intro (Nat.le_of_ble_eq_true rfl) (And.intro (ok_M_isKeptBack_84 hq8) ?_))))
          rcases px_ite h with ⟨c9, h⟩ | ⟨c9, h⟩
          · refine And.intro (fun _ => ?_) (fun hn => absurd c9 hn)
            refine H [((1, 3, 0, 0, []), 1), ((1, 2, 0, 0, []), 1), ((13, 3, 116, 0, []), 3), ((1, 3, 0, 0, []), 1), ((0, 0, 0, 1, []), 1), ((6, 0, 0, 0, []), 1), ((3, 3, 0, 0, []), 1), ((2, 0, 0, 0, []), 1), ((1, 4, 0, 0, []), 2), ((1, 1, 0, 0, []), 1), ((23, 200, 2, 0, [(0, 84)]), 3), ((5, 4, 0, 1, []), 3), ((12, 0, 47, 0, []), 3)] 100 _ _ _ (by decide +kernel) ?_
            rcases px_ite h with ⟨c10, h⟩ | ⟨c10, h⟩
            · refine And.intro (fun _ => ?_) (fun hn => absurd c10 hn)
              refine H [((5, 4, 0, 1, []), 3), ((12, 0, 47, 0, []), 3)] 116 _ _ _ (by decide +kernel) ?_
              exact ih _ _ _ _ _ h
            · refine And.intro (fun hp => absurd hp c10) (fun _ => ?_)
              obtain ⟨⟨vq11, σq11⟩, hq11, h⟩ := px_bind h
              dsimp only at h
              refine Exists.intro 3 (Exists.intro vq11 (Exists.intro σq11 (And.intro (Nat.le_of_ble_eq_true rfl) (And.intro (ok_M_goesOff_84 hq11) ?_))))
              exact ih _ _ _ _ _ h
          · refine And.intro (fun hp => absurd hp c9) (fun _ => ?_)
            exact ih _ _ _ _ _ h
      · refine And.intro (fun _ => ?_) (fun hn => absurd c5 hn)
        refine H [((5, 4, 0, 1, []), 3), ((12, 0, 47, 0, []), 3)] 116 _ _ _ (by decide +kernel) ?_
        exact ih _ _ _ _ _ h
theorem ok_M_cycleGoes_84_p2 {l : Launch} {rv : Int} {rσ : pS} {G : Nat → pL → List pV → pS → Prop} (H : px_R l 7 178 rv rσ G) : ∀ (n : Nat) (a1 a2 a3 : Int) (σ : pS), f_M_cycleGoes_84_p2 n a1 a2 a3 σ = some (rv, rσ) → G 2 [some (.inr 84), some (.inl a1), some (.inl a2), some (.inl a3), none] [] σ := by
  intro n
  induction n with
  | zero =>
    intro a1 a2 a3 σ h
    unfold f_M_cycleGoes_84_p2 at h
    cases h
  | succ n ih =>
    intro a1 a2 a3 σ h
    unfold f_M_cycleGoes_84_p2 at h
    refine H [((1, 3, 0, 0, []), 1), ((2, 0, 0, 0, []), 1), ((16, 84, 2, 0, []), 3), ((13, 3, 42, 0, []), 3), ((2, 0, 0, 0, []), 1), ((17, 84, 118, 0, []), 3), ((1, 3, 0, 0, []), 1), ((19, 118, 20, 0, []), 1), ((0, 0, 0, 1, []), 1), ((13, 1, 36, 0, []), 3), ((2, 0, 0, 0, []), 1), ((17, 84, 119, 0, []), 3), ((1, 3, 0, 0, []), 1), ((19, 119, 20, 0, []), 1), ((1, 1, 0, 0, []), 1), ((13, 1, 36, 0, []), 3), ((2, 0, 0, 0, []), 1), ((1, 3, 0, 0, []), 1), ((1, 1, 0, 0, []), 1), ((23, 179, 2, 0, [(0, 84)]), 3), ((5, 3, 0, 1, []), 3), ((12, 0, 2, 0, []), 3)] 2 _ _ _ (by decide +kernel) ?_
    rcases px_ite h with ⟨c1, h⟩ | ⟨c1, h⟩
    · refine And.intro (fun _ => ?_) (fun hn => absurd c1 hn)
      refine H [((0, 0, 0, 0, []), 1), ((3, 3, 0, 0, []), 1), ((0, 0, 0, 0, []), 1), ((3, 4, 0, 0, []), 2)] 42 _ _ _ (by decide +kernel) ?_
      exact ok_M_cycleGoes_84_p47 H _ _ _ _ _ _ h
    · refine And.intro (fun hp => absurd hp c1) (fun _ => ?_)
      obtain ⟨g12, h⟩ := px_gd h
      refine And.intro g12 ?_
      rcases px_ite h with ⟨c13, h⟩ | ⟨c13, h⟩
      · refine And.intro (fun hp => absurd c13 hp) (fun _ => ?_)
        obtain ⟨g14, h⟩ := px_gd h
        refine And.intro g14 ?_
        rcases px_ite h with ⟨c15, h⟩ | ⟨c15, h⟩
        · refine And.intro (fun hp => absurd c15 hp) (fun _ => ?_)
          obtain ⟨⟨vq16, σq16⟩, hq16, h⟩ := px_bind h
          dsimp only at h
          refine Exists.intro 6 (Exists.intro vq16 (Exists.intro σq16 (And.intro (Nat.le_of_ble_eq_true rfl) (And.intro (ok_M_comesDone_84 hq16) ?_))))
          exact ih _ _ _ _ h
        · refine And.intro (fun _ => ?_) (fun hn => absurd c15 hn)
          refine H [((5, 3, 0, 1, []), 3), ((12, 0, 2, 0, []), 3)] 36 _ _ _ (by decide +kernel) ?_
          exact ih _ _ _ _ h
      · refine And.intro (fun _ => ?_) (fun hn => absurd c13 hn)
        refine H [((5, 3, 0, 1, []), 3), ((12, 0, 2, 0, []), 3)] 36 _ _ _ (by decide +kernel) ?_
        exact ih _ _ _ _ h
theorem ok_M_cycleGoes_84_w {l : Launch} {rv : Int} {rσ : pS} {G : Nat → pL → List pV → pS → Prop} (H : px_R l 7 178 rv rσ G) : ∀ (a1 a2 : Int) (σ : pS), f_M_cycleGoes_84 a1 a2 σ = some (rv, rσ) → G 0 [some (.inr 84), some (.inl a1), some (.inl a2), none, none] [] σ := by
  intro a1 a2 σ h
  unfold f_M_cycleGoes_84 at h
  refine H [((0, 0, 0, 0, []), 1), ((3, 3, 0, 0, []), 1)] 0 _ _ _ (by decide +kernel) ?_
  exact ok_M_cycleGoes_84_p2 H _ _ _ _ _ h
theorem ok_M_cycleGoes_84 {l : Launch} {a1 a2 : Int} {σ : pS} {v : Int} {σ1 : pS} (h : f_M_cycleGoes_84 a1 a2 σ = some (v, σ1)) : Con l 7 178 [.inr 84, .inl a1, .inl a2] σ v σ1 := Con_mk 3 5 rfl (by decide +kernel) (fun _ H => ok_M_cycleGoes_84_w H _ _ _ h)
theorem ok_M_isOver_84_p2 {l : Launch} {rv : Int} {rσ : pS} {G : Nat → pL → List pV → pS → Prop} (H : px_R l 0 209 rv rσ G) : ∀ (n : Nat) (a1 : Int) (σ : pS), f_M_isOver_84_p2 n a1 σ = some (rv, rσ) → G 2 [some (.inr 84), some (.inl a1)] [] σ := by
  intro n
  induction n with
  | zero =>
    intro a1 σ h
    unfold f_M_isOver_84_p2 at h
    cases h
  | succ n ih =>
    intro a1 σ h
    unfold f_M_isOver_84_p2 at h
    refine H [((1, 1, 0, 0, []), 1), ((2, 0, 0, 0, []), 1), ((16, 84, 2, 0, []), 3), ((13, 3, 47, 0, []), 3), ((2, 0, 0, 0, []), 1), ((17, 84, 118, 0, []), 3), ((1, 1, 0, 0, []), 1), ((19, 118, 20, 0, []), 1), ((0, 0, 0, 2, []), 1), ((13, 1, 39, 0, []), 3), ((2, 0, 0, 0, []), 1), ((17, 84, 88, 0, []), 3), ((1, 1, 0, 0, []), 1), ((19, 88, 20, 0, []), 1), ((0, 0, 0, 3, []), 1), ((13, 1, 41, 0, []), 3), ((2, 0, 0, 0, []), 1), ((17, 84, 126, 0, []), 3), ((1, 1, 0, 0, []), 1), ((19, 126, 20, 0, []), 1), ((14, 1, 41, 0, []), 3), ((0, 0, 0, 0, []), 1), ((27, 1, 0, 0, []), 1)] 2 _ _ _ (by decide +kernel) ?_
    rcases px_ite h with ⟨c1, h⟩ | ⟨c1, h⟩
    · refine And.intro (fun _ => ?_) (fun hn => absurd c1 hn)
      refine H [((0, 0, 0, 1, []), 1), ((27, 1, 0, 0, []), 1)] 47 _ _ _ (by decide +kernel) ?_
      refine And.intro (show (0 : Int) ≤ 1 ∧ (1 : Int) ≤ 1 from by decide) ?_
      exact Prod.mk.inj (Option.some.inj h)
    · refine And.intro (fun hp => absurd hp c1) (fun _ => ?_)
      obtain ⟨g2, h⟩ := px_gd h
      refine And.intro g2 ?_
      rcases px_ite h with ⟨c3, h⟩ | ⟨c3, h⟩
      · refine And.intro (fun hp => absurd c3 hp) (fun _ => ?_)
        obtain ⟨g4, h⟩ := px_gd h
        refine And.intro g4 ?_
        rcases px_ite h with ⟨c5, h⟩ | ⟨c5, h⟩
        · refine And.intro (fun hp => absurd c5 hp) (fun _ => ?_)
          obtain ⟨g6, h⟩ := px_gd h
          refine And.intro g6 ?_
          rcases px_ite h with ⟨c7, h⟩ | ⟨c7, h⟩
          · refine And.intro (fun hp => absurd c7 hp) (fun _ => ?_)
            refine And.intro (show (0 : Int) ≤ 0 ∧ (0 : Int) ≤ 1 from by decide) ?_
            exact Prod.mk.inj (Option.some.inj h)
          · refine And.intro (fun _ => ?_) (fun hn => absurd c7 hn)
            refine H [((5, 1, 0, 1, []), 3), ((12, 0, 2, 0, []), 3)] 41 _ _ _ (by decide +kernel) ?_
            exact ih _ _ h
        · refine And.intro (fun _ => ?_) (fun hn => absurd c5 hn)
          refine H [((5, 1, 0, 1, []), 3), ((12, 0, 2, 0, []), 3)] 41 _ _ _ (by decide +kernel) ?_
          exact ih _ _ h
      · refine And.intro (fun _ => ?_) (fun hn => absurd c3 hn)
        refine H [((0, 0, 0, 0, []), 1), ((27, 1, 0, 0, []), 1)] 39 _ _ _ (by decide +kernel) ?_
        refine And.intro (show (0 : Int) ≤ 0 ∧ (0 : Int) ≤ 1 from by decide) ?_
        exact Prod.mk.inj (Option.some.inj h)
theorem ok_M_isOver_84_w {l : Launch} {rv : Int} {rσ : pS} {G : Nat → pL → List pV → pS → Prop} (H : px_R l 0 209 rv rσ G) : ∀ (σ : pS), f_M_isOver_84  σ = some (rv, rσ) → G 0 [some (.inr 84), none] [] σ := by
  intro  σ h
  unfold f_M_isOver_84 at h
  refine H [((0, 0, 0, 0, []), 1), ((3, 1, 0, 0, []), 1)] 0 _ _ _ (by decide +kernel) ?_
  exact ok_M_isOver_84_p2 H _ _ _ h
theorem ok_M_isOver_84 {l : Launch} {σ : pS} {v : Int} {σ1 : pS} (h : f_M_isOver_84  σ = some (v, σ1)) : Con l 0 209 [.inr 84] σ v σ1 := Con_mk 1 2 rfl (by decide +kernel) (fun _ H => ok_M_isOver_84_w H  _ h)
theorem ok_M_goesThrough_84_p177 {l : Launch} {rv : Int} {rσ : pS} {G : Nat → pL → List pV → pS → Prop} (H : px_R l 8 177 rv rσ G) : ∀ (n : Nat) (a3 : Int) (σ : pS), f_M_goesThrough_84_p177 n a3 σ = some (rv, rσ) → G 177 [some (.inr 84), none, none, some (.inl a3)] [] σ := by
  intro n
  induction n with
  | zero =>
    intro a3 σ h
    unfold f_M_goesThrough_84_p177 at h
    cases h
  | succ n ih =>
    intro a3 σ h
    unfold f_M_goesThrough_84_p177 at h
    refine H [((1, 3, 0, 0, []), 1), ((0, 0, 0, 8, []), 2), ((13, 3, 204, 0, []), 3), ((2, 0, 0, 0, []), 1), ((17, 84, 130, 0, []), 3), ((1, 3, 0, 0, []), 1), ((2, 0, 0, 0, []), 1), ((2, 0, 0, 0, []), 1), ((16, 84, 2, 0, []), 3), ((1, 3, 0, 0, []), 1), ((23, 180, 2, 1, [(0, 84)]), 3), ((20, 130, 8, 0, []), 1), ((5, 3, 0, 1, []), 3), ((12, 0, 177, 0, []), 3)] 177 _ _ _ (by decide +kernel) ?_
    rcases px_ite h with ⟨c5, h⟩ | ⟨c5, h⟩
    · refine And.intro (fun _ => ?_) (fun hn => absurd c5 hn)
      refine H [((2, 0, 0, 0, []), 1), ((16, 84, 63, 0, []), 3), ((0, 0, 0, (-5), []), 2), ((13, 0, 217, 0, []), 3), ((0, 0, 0, 1, []), 1), ((12, 0, 218, 0, []), 3), ((27, 1, 0, 0, []), 1)] 204 _ _ _ (by decide +kernel) ?_
      rcases px_ite h with ⟨c6, h⟩ | ⟨c6, h⟩
      · refine And.intro (fun _ => ?_) (fun hn => absurd c6 hn)
        refine H [((0, 0, 0, 0, []), 1), ((27, 1, 0, 0, []), 1)] 217 _ _ _ (by decide +kernel) ?_
        refine And.intro (show (0 : Int) ≤ 0 ∧ (0 : Int) ≤ 1 from by decide) ?_
        exact Prod.mk.inj (Option.some.inj h)
      · refine And.intro (fun hp => absurd hp c6) (fun _ => ?_)
        refine And.intro (show (0 : Int) ≤ 1 ∧ (1 : Int) ≤ 1 from by decide) ?_
        exact Prod.mk.inj (Option.some.inj h)
    · refine And.intro (fun hp => absurd hp c5) (fun _ => ?_)
      obtain ⟨⟨vq7, σq7⟩, hq7, h⟩ := px_bind h
      dsimp only at h
      refine Exists.intro 2 (Exists.intro vq7 (Exists.intro σq7 (And.intro (Nat.le_of_ble_eq_true rfl) (And.intro (ok_M_readBy_84 hq7) ?_))))
      obtain ⟨g8, h⟩ := px_gd h
      refine And.intro g8 ?_
      exact ih _ _ h
theorem ok_M_goesThrough_84_p133 {l : Launch} {rv : Int} {rσ : pS} {G : Nat → pL → List pV → pS → Prop} (H : px_R l 8 177 rv rσ G) : ∀ (n : Nat) (a1 a3 : Int) (σ : pS), f_M_goesThrough_84_p133 n a1 a3 σ = some (rv, rσ) → G 133 [some (.inr 84), some (.inl a1), none, some (.inl a3)] [] σ := by
  intro n
  induction n with
  | zero =>
    intro a1 a3 σ h
    unfold f_M_goesThrough_84_p133 at h
    cases h
  | succ n ih =>
    intro a1 a3 σ h
    unfold f_M_goesThrough_84_p133 at h
    refine H [((1, 3, 0, 0, []), 1), ((0, 0, 0, 2000, []), 3), ((13, 4, 175, 0, []), 3), ((2, 0, 0, 0, []), 1), ((16, 84, 63, 0, []), 3), ((0, 0, 0, (-5), []), 2), ((13, 1, 175, 0, []), 3), ((2, 0, 0, 0, []), 1), ((1, 3, 0, 0, []), 1), ((1, 1, 0, 0, []), 1), ((23, 178, 2, 0, [(0, 84)]), 3), ((2, 0, 0, 0, []), 1), ((23, 209, 0, 1, [(0, 84)]), 3), ((14, 0, 169, 0, []), 3), ((2, 0, 0, 0, []), 1), ((1, 3, 0, 0, []), 1), ((0, 0, 0, 1, []), 1), ((6, 0, 0, 0, []), 1), ((18, 84, 63, 0, []), 3), ((5, 3, 0, 1, []), 3), ((12, 0, 133, 0, []), 3)] 133 _ _ _ (by decide +kernel) ?_
    rcases px_ite h with ⟨c4, h⟩ | ⟨c4, h⟩
    · refine And.intro (fun _ => ?_) (fun hn => absurd c4 hn)
      refine H [((0, 0, 0, 0, []), 1), ((3, 3, 0, 0, []), 1), ((29, 1, 0, 0, []), 0)] 175 _ _ _ (by decide +kernel) ?_
      exact ok_M_goesThrough_84_p177 H _ _ _ h
    · refine And.intro (fun hp => absurd hp c4) (fun _ => ?_)
      rcases px_ite h with ⟨c9, h⟩ | ⟨c9, h⟩
      · refine And.intro (fun hp => absurd c9 hp) (fun _ => ?_)
        obtain ⟨⟨vq10, σq10⟩, hq10, h⟩ := px_bind h
        dsimp only at h
        refine Exists.intro 7 (Exists.intro vq10 (Exists.intro σq10 (And.intro (Nat.le_of_ble_eq_true rfl) (And.intro (ok_M_cycleGoes_84 hq10) ?_))))
        obtain ⟨⟨vq11, σq11⟩, hq11, h⟩ := px_bind h
        dsimp only at h
        refine Exists.intro 0 (Exists.intro vq11 (Exists.intro σq11 (And.intro (Nat.le_of_ble_eq_true rfl) (And.intro (ok_M_isOver_84 hq11) ?_))))
        rcases px_ite h with ⟨c12, h⟩ | ⟨c12, h⟩
        · refine And.intro (fun _ => ?_) (fun hn => absurd c12 hn)
          refine H [((5, 3, 0, 1, []), 3), ((12, 0, 133, 0, []), 3)] 169 _ _ _ (by decide +kernel) ?_
          exact ih _ _ _ h
        · refine And.intro (fun hp => absurd hp c12) (fun _ => ?_)
          exact ih _ _ _ h
      · refine And.intro (fun _ => ?_) (fun hn => absurd c9 hn)
        refine H [((0, 0, 0, 0, []), 1), ((3, 3, 0, 0, []), 1), ((29, 1, 0, 0, []), 0)] 175 _ _ _ (by decide +kernel) ?_
        exact ok_M_goesThrough_84_p177 H _ _ _ h
theorem ok_M_goesThrough_84_p95 {l : Launch} {rv : Int} {rσ : pS} {G : Nat → pL → List pV → pS → Prop} (H : px_R l 8 177 rv rσ G) : ∀ (n : Nat) (a1 a3 : Int) (σ : pS), f_M_goesThrough_84_p95 n a1 a3 σ = some (rv, rσ) → G 95 [some (.inr 84), some (.inl a1), none, some (.inl a3)] [] σ := by
  intro n
  induction n with
  | zero =>
    intro a1 a3 σ h
    unfold f_M_goesThrough_84_p95 at h
    cases h
  | succ n ih =>
    intro a1 a3 σ h
    unfold f_M_goesThrough_84_p95 at h
    refine H [((1, 3, 0, 0, []), 1), ((0, 0, 0, 64, []), 2), ((13, 3, 131, 0, []), 3), ((2, 0, 0, 0, []), 1), ((17, 84, 127, 0, []), 3), ((1, 3, 0, 0, []), 1), ((2, 0, 0, 0, []), 1), ((17, 84, 86, 0, []), 3), ((1, 3, 0, 0, []), 1), ((19, 86, 64, 0, []), 1), ((20, 127, 64, 0, []), 1), ((2, 0, 0, 0, []), 1), ((17, 84, 128, 0, []), 3), ((1, 3, 0, 0, []), 1), ((2, 0, 0, 0, []), 1), ((17, 84, 86, 0, []), 3), ((1, 3, 0, 0, []), 1), ((19, 86, 64, 0, []), 1), ((20, 128, 64, 0, []), 1), ((5, 3, 0, 1, []), 3), ((12, 0, 95, 0, []), 3)] 95 _ _ _ (by decide +kernel) ?_
    rcases px_ite h with ⟨c3, h⟩ | ⟨c3, h⟩
    · refine And.intro (fun _ => ?_) (fun hn => absurd c3 hn)
      refine H [((0, 0, 0, 0, []), 1), ((3, 3, 0, 0, []), 1)] 131 _ _ _ (by decide +kernel) ?_
      exact ok_M_goesThrough_84_p133 H _ _ _ _ h
    · refine And.intro (fun hp => absurd hp c3) (fun _ => ?_)
      obtain ⟨g13, h⟩ := px_gd h
      refine And.intro g13 ?_
      obtain ⟨g14, h⟩ := px_gd h
      refine And.intro g14 ?_
      obtain ⟨g15, h⟩ := px_gd h
      refine And.intro g15 ?_
      obtain ⟨g16, h⟩ := px_gd h
      refine And.intro g16 ?_
      exact ih _ _ _ h
theorem ok_M_goesThrough_84_p38 {l : Launch} {rv : Int} {rσ : pS} {G : Nat → pL → List pV → pS → Prop} (H : px_R l 8 177 rv rσ G) : ∀ (n : Nat) (a1 a3 : Int) (σ : pS), f_M_goesThrough_84_p38 n a1 a3 σ = some (rv, rσ) → G 38 [some (.inr 84), some (.inl a1), none, some (.inl a3)] [] σ := by
  intro n
  induction n with
  | zero =>
    intro a1 a3 σ h
    unfold f_M_goesThrough_84_p38 at h
    cases h
  | succ n ih =>
    intro a1 a3 σ h
    unfold f_M_goesThrough_84_p38 at h
    refine H [((1, 3, 0, 0, []), 1), ((2, 0, 0, 0, []), 1), ((16, 84, 2, 0, []), 3), ((13, 3, 85, 0, []), 3), ((2, 0, 0, 0, []), 1), ((17, 84, 118, 0, []), 3), ((1, 3, 0, 0, []), 1), ((0, 0, 0, 0, []), 1), ((20, 118, 20, 0, []), 1), ((2, 0, 0, 0, []), 1), ((17, 84, 126, 0, []), 3), ((1, 3, 0, 0, []), 1), ((0, 0, 0, 0, []), 1), ((20, 126, 20, 1, []), 1), ((2, 0, 0, 0, []), 1), ((17, 84, 123, 0, []), 3), ((1, 3, 0, 0, []), 1), ((0, 0, 0, 0, []), 1), ((20, 123, 20, 0, []), 1), ((2, 0, 0, 0, []), 1), ((17, 84, 129, 0, []), 3), ((1, 3, 0, 0, []), 1), ((2, 0, 0, 0, []), 1), ((17, 84, 87, 0, []), 3), ((1, 3, 0, 0, []), 1), ((19, 87, 20, 0, []), 1), ((20, 129, 20, 0, []), 1), ((5, 3, 0, 1, []), 3), ((12, 0, 38, 0, []), 3)] 38 _ _ _ (by decide +kernel) ?_
    rcases px_ite h with ⟨c2, h⟩ | ⟨c2, h⟩
    · refine And.intro (fun _ => ?_) (fun hn => absurd c2 hn)
      refine H [((2, 0, 0, 0, []), 1), ((2, 0, 0, 0, []), 1), ((16, 84, 3, 0, []), 3), ((18, 84, 69, 0, []), 3), ((0, 0, 0, 0, []), 1), ((3, 3, 0, 0, []), 1)] 85 _ _ _ (by decide +kernel) ?_
      exact ok_M_goesThrough_84_p95 H _ _ _ _ h
    · refine And.intro (fun hp => absurd hp c2) (fun _ => ?_)
      obtain ⟨g17, h⟩ := px_gd h
      refine And.intro g17 ?_
      obtain ⟨g18, h⟩ := px_gd h
      refine And.intro g18 ?_
      refine And.intro (show (0 : Int) ≤ 0 ∧ (0 : Int) ≤ 1 from by decide) ?_
      obtain ⟨g19, h⟩ := px_gd h
      refine And.intro g19 ?_
      obtain ⟨g20, h⟩ := px_gd h
      refine And.intro g20 ?_
      obtain ⟨g21, h⟩ := px_gd h
      refine And.intro g21 ?_
      exact ih _ _ _ h
theorem ok_M_goesThrough_84_w {l : Launch} {rv : Int} {rσ : pS} {G : Nat → pL → List pV → pS → Prop} (H : px_R l 8 177 rv rσ G) : ∀ (a1 a2 : Int) (σ : pS), f_M_goesThrough_84 a1 a2 σ = some (rv, rσ) → G 0 [some (.inr 84), some (.inl a1), some (.inl a2), none] [] σ := by
  intro a1 a2 σ h
  unfold f_M_goesThrough_84 at h
  refine H [((2, 0, 0, 0, []), 1), ((1, 2, 0, 0, []), 1), ((18, 84, 70, 1, []), 3), ((2, 0, 0, 0, []), 1), ((0, 0, 0, (-5), []), 2), ((18, 84, 63, 0, []), 3), ((2, 0, 0, 0, []), 1), ((0, 0, 0, 0, []), 1), ((18, 84, 64, 0, []), 3), ((2, 0, 0, 0, []), 1), ((0, 0, 0, 0, []), 1), ((18, 84, 65, 0, []), 3), ((2, 0, 0, 0, []), 1), ((0, 0, 0, 0, []), 1), ((18, 84, 66, 0, []), 3), ((2, 0, 0, 0, []), 1), ((0, 0, 0, 0, []), 1), ((18, 84, 67, 0, []), 3), ((2, 0, 0, 0, []), 1), ((0, 0, 0, 0, []), 1), ((18, 84, 68, 0, []), 3), ((0, 0, 0, 0, []), 1), ((3, 3, 0, 0, []), 1), ((29, 2, 0, 0, []), 0)] 0 _ _ _ (by decide +kernel) ?_
  obtain ⟨g1, h⟩ := px_gd h
  refine And.intro g1 ?_
  exact ok_M_goesThrough_84_p38 H _ _ _ _ h
theorem ok_M_goesThrough_84 {l : Launch} {a1 a2 : Int} {σ : pS} {v : Int} {σ1 : pS} (h : f_M_goesThrough_84 a1 a2 σ = some (v, σ1)) : Con l 8 177 [.inr 84, .inl a1, .inl a2] σ v σ1 := Con_mk 3 4 rfl (by decide +kernel) (fun _ H => ok_M_goesThrough_84_w H _ _ _ h)
theorem ok_M_toldOf_84_w {l : Launch} {rv : Int} {rσ : pS} {G : Nat → pL → List pV → pS → Prop} (H : px_R l 0 211 rv rσ G) : ∀ (a1 : Int) (σ : pS), f_M_toldOf_84 a1 σ = some (rv, rσ) → G 0 [some (.inr 84), some (.inl a1)] [] σ := by
  intro a1 σ h
  unfold f_M_toldOf_84 at h
  refine H [((1, 1, 0, 0, []), 1), ((15, 0, 61, 0, [(0, 36), (1, 41), (2, 46), (3, 51), (4, 56)]), 35)] 0 _ _ _ (by decide +kernel) ?_
  rcases px_ite h with ⟨c1, h⟩ | ⟨c1, h⟩
  · refine And.intro (fun _ => ?_) (fun hn => absurd c1 hn)
    refine H [((2, 0, 0, 0, []), 1), ((16, 84, 63, 0, []), 3), ((27, 0, 0, 0, []), 1)] 36 _ _ _ (by decide +kernel) ?_
    exact Prod.mk.inj (Option.some.inj h)
  · refine And.intro (fun hp => absurd hp c1) (fun _ => ?_)
    rcases px_ite h with ⟨c2, h⟩ | ⟨c2, h⟩
    · refine And.intro (fun _ => ?_) (fun hn => absurd c2 hn)
      refine H [((2, 0, 0, 0, []), 1), ((16, 84, 64, 0, []), 3), ((27, 0, 0, 0, []), 1)] 41 _ _ _ (by decide +kernel) ?_
      exact Prod.mk.inj (Option.some.inj h)
    · refine And.intro (fun hp => absurd hp c2) (fun _ => ?_)
      rcases px_ite h with ⟨c3, h⟩ | ⟨c3, h⟩
      · refine And.intro (fun _ => ?_) (fun hn => absurd c3 hn)
        refine H [((2, 0, 0, 0, []), 1), ((16, 84, 65, 0, []), 3), ((27, 0, 0, 0, []), 1)] 46 _ _ _ (by decide +kernel) ?_
        exact Prod.mk.inj (Option.some.inj h)
      · refine And.intro (fun hp => absurd hp c3) (fun _ => ?_)
        rcases px_ite h with ⟨c4, h⟩ | ⟨c4, h⟩
        · refine And.intro (fun _ => ?_) (fun hn => absurd c4 hn)
          refine H [((2, 0, 0, 0, []), 1), ((16, 84, 66, 0, []), 3), ((27, 0, 0, 0, []), 1)] 51 _ _ _ (by decide +kernel) ?_
          exact Prod.mk.inj (Option.some.inj h)
        · refine And.intro (fun hp => absurd hp c4) (fun _ => ?_)
          rcases px_ite h with ⟨c5, h⟩ | ⟨c5, h⟩
          · refine And.intro (fun _ => ?_) (fun hn => absurd c5 hn)
            refine H [((2, 0, 0, 0, []), 1), ((16, 84, 67, 0, []), 3), ((27, 0, 0, 0, []), 1)] 56 _ _ _ (by decide +kernel) ?_
            exact Prod.mk.inj (Option.some.inj h)
          · refine And.intro (fun hp => absurd hp c5) (fun _ => ?_)
            refine H [((2, 0, 0, 0, []), 1), ((16, 84, 68, 0, []), 3), ((27, 0, 0, 0, []), 1)] 61 _ _ _ (by decide +kernel) ?_
            exact Prod.mk.inj (Option.some.inj h)
theorem ok_M_toldOf_84 {l : Launch} {a1 : Int} {σ : pS} {v : Int} {σ1 : pS} (h : f_M_toldOf_84 a1 σ = some (v, σ1)) : Con l 0 211 [.inr 84, .inl a1] σ v σ1 := Con_mk 2 2 rfl (by decide +kernel) (fun _ H => ok_M_toldOf_84_w H _ _ h)
theorem ok_M_putsSetsBack_84_p2 {l : Launch} {rv : Int} {rσ : pS} {G : Nat → pL → List pV → pS → Prop} (H : px_R l 0 210 rv rσ G) : ∀ (n : Nat) (a1 : Int) (σ : pS), f_M_putsSetsBack_84_p2 n a1 σ = some (rv, rσ) → G 2 [some (.inr 84), some (.inl a1)] [] σ := by
  intro n
  induction n with
  | zero =>
    intro a1 σ h
    unfold f_M_putsSetsBack_84_p2 at h
    cases h
  | succ n ih =>
    intro a1 σ h
    unfold f_M_putsSetsBack_84_p2 at h
    refine H [((1, 1, 0, 0, []), 1), ((2, 0, 0, 0, []), 1), ((16, 84, 2, 0, []), 3), ((13, 3, 28, 0, []), 3), ((2, 0, 0, 0, []), 1), ((17, 84, 87, 0, []), 3), ((1, 1, 0, 0, []), 1), ((2, 0, 0, 0, []), 1), ((17, 84, 129, 0, []), 3), ((1, 1, 0, 0, []), 1), ((19, 129, 20, 0, []), 1), ((20, 87, 20, 0, []), 1), ((5, 1, 0, 1, []), 3), ((12, 0, 2, 0, []), 3)] 2 _ _ _ (by decide +kernel) ?_
    rcases px_ite h with ⟨c1, h⟩ | ⟨c1, h⟩
    · refine And.intro (fun _ => ?_) (fun hn => absurd c1 hn)
      refine H [((2, 0, 0, 0, []), 1), ((2, 0, 0, 0, []), 1), ((16, 84, 69, 0, []), 3), ((18, 84, 3, 0, []), 3), ((28, 0, 0, 0, []), 1)] 28 _ _ _ (by decide +kernel) ?_
      exact (Prod.mk.inj (Option.some.inj h)).2
    · refine And.intro (fun hp => absurd hp c1) (fun _ => ?_)
      obtain ⟨g2, h⟩ := px_gd h
      refine And.intro g2 ?_
      obtain ⟨g3, h⟩ := px_gd h
      refine And.intro g3 ?_
      exact ih _ _ h
theorem ok_M_putsSetsBack_84_w {l : Launch} {rv : Int} {rσ : pS} {G : Nat → pL → List pV → pS → Prop} (H : px_R l 0 210 rv rσ G) : ∀ (σ : pS), f_M_putsSetsBack_84  σ = some (rv, rσ) → G 0 [some (.inr 84), none] [] σ := by
  intro  σ h
  unfold f_M_putsSetsBack_84 at h
  refine H [((0, 0, 0, 0, []), 1), ((3, 1, 0, 0, []), 1)] 0 _ _ _ (by decide +kernel) ?_
  exact ok_M_putsSetsBack_84_p2 H _ _ _ h
theorem ok_M_putsSetsBack_84 {l : Launch} {σ : pS} {v : Int} {σ1 : pS} (h : f_M_putsSetsBack_84  σ = some (v, σ1)) : Con l 0 210 [.inr 84] σ v σ1 := Con_mk 1 2 rfl (by decide +kernel) (fun _ H => ok_M_putsSetsBack_84_w H  _ h)
theorem ok_M_run_84_p190 {l : Launch} {rv : Int} {rσ : pS} {G : Nat → pL → List pV → pS → Prop} (H : px_R l 9 175 rv rσ G) : ∀ (n : Nat) (a2 : Int) (σ : pS), f_M_run_84_p190 n a2 σ = some (rv, rσ) → G 190 [some (.inr 84), none, some (.inl a2)] [] σ := by
  intro n
  induction n with
  | zero =>
    intro a2 σ h
    unfold f_M_run_84_p190 at h
    cases h
  | succ n ih =>
    intro a2 σ h
    unfold f_M_run_84_p190 at h
    refine H [((1, 2, 0, 0, []), 1), ((0, 0, 0, 80, []), 2), ((13, 3, 214, 0, []), 3), ((2, 0, 0, 0, []), 1), ((17, 84, 139, 0, []), 3), ((1, 2, 0, 0, []), 1), ((2, 0, 0, 0, []), 1), ((17, 84, 124, 0, []), 3), ((1, 2, 0, 0, []), 1), ((19, 124, 80, 0, []), 1), ((20, 139, 80, 0, []), 1), ((5, 2, 0, 1, []), 3), ((12, 0, 190, 0, []), 3)] 190 _ _ _ (by decide +kernel) ?_
    rcases px_ite h with ⟨c10, h⟩ | ⟨c10, h⟩
    · refine And.intro (fun _ => ?_) (fun hn => absurd c10 hn)
      refine H [((2, 0, 0, 0, []), 1), ((16, 84, 63, 0, []), 3), ((27, 0, 0, 0, []), 1)] 214 _ _ _ (by decide +kernel) ?_
      exact Prod.mk.inj (Option.some.inj h)
    · refine And.intro (fun hp => absurd hp c10) (fun _ => ?_)
      obtain ⟨g11, h⟩ := px_gd h
      refine And.intro g11 ?_
      obtain ⟨g12, h⟩ := px_gd h
      refine And.intro g12 ?_
      exact ih _ _ h
theorem ok_M_run_84_p126 {l : Launch} {rv : Int} {rσ : pS} {G : Nat → pL → List pV → pS → Prop} (H : px_R l 9 175 rv rσ G) : ∀ (n : Nat) (a2 : Int) (σ : pS), f_M_run_84_p126 n a2 σ = some (rv, rσ) → G 126 [some (.inr 84), none, some (.inl a2)] [] σ := by
  intro n
  induction n with
  | zero =>
    intro a2 σ h
    unfold f_M_run_84_p126 at h
    cases h
  | succ n ih =>
    intro a2 σ h
    unfold f_M_run_84_p126 at h
    refine H [((1, 2, 0, 0, []), 1), ((2, 0, 0, 0, []), 1), ((16, 84, 2, 0, []), 3), ((13, 3, 188, 0, []), 3), ((2, 0, 0, 0, []), 1), ((17, 84, 135, 0, []), 3), ((1, 2, 0, 0, []), 1), ((2, 0, 0, 0, []), 1), ((17, 84, 122, 0, []), 3), ((1, 2, 0, 0, []), 1), ((19, 122, 20, 0, []), 1), ((20, 135, 20, 0, []), 1), ((2, 0, 0, 0, []), 1), ((17, 84, 136, 0, []), 3), ((1, 2, 0, 0, []), 1), ((2, 0, 0, 0, []), 1), ((17, 84, 123, 0, []), 3), ((1, 2, 0, 0, []), 1), ((19, 123, 20, 0, []), 1), ((20, 136, 20, 0, []), 1), ((2, 0, 0, 0, []), 1), ((17, 84, 137, 0, []), 3), ((1, 2, 0, 0, []), 1), ((2, 0, 0, 0, []), 1), ((17, 84, 120, 0, []), 3), ((1, 2, 0, 0, []), 1), ((19, 120, 20, 0, []), 1), ((20, 137, 20, 0, []), 1), ((2, 0, 0, 0, []), 1), ((17, 84, 138, 0, []), 3), ((1, 2, 0, 0, []), 1), ((2, 0, 0, 0, []), 1), ((17, 84, 121, 0, []), 3), ((1, 2, 0, 0, []), 1), ((19, 121, 20, 0, []), 1), ((20, 138, 20, 0, []), 1), ((5, 2, 0, 1, []), 3), ((12, 0, 126, 0, []), 3)] 126 _ _ _ (by decide +kernel) ?_
    rcases px_ite h with ⟨c9, h⟩ | ⟨c9, h⟩
    · refine And.intro (fun _ => ?_) (fun hn => absurd c9 hn)
      refine H [((0, 0, 0, 0, []), 1), ((3, 2, 0, 0, []), 1)] 188 _ _ _ (by decide +kernel) ?_
      exact ok_M_run_84_p190 H _ _ _ h
    · refine And.intro (fun hp => absurd hp c9) (fun _ => ?_)
      obtain ⟨g13, h⟩ := px_gd h
      refine And.intro g13 ?_
      obtain ⟨g14, h⟩ := px_gd h
      refine And.intro g14 ?_
      obtain ⟨g15, h⟩ := px_gd h
      refine And.intro g15 ?_
      obtain ⟨g16, h⟩ := px_gd h
      refine And.intro g16 ?_
      obtain ⟨g17, h⟩ := px_gd h
      refine And.intro g17 ?_
      obtain ⟨g18, h⟩ := px_gd h
      refine And.intro g18 ?_
      obtain ⟨g19, h⟩ := px_gd h
      refine And.intro g19 ?_
      obtain ⟨g20, h⟩ := px_gd h
      refine And.intro g20 ?_
      exact ih _ _ h
theorem ok_M_run_84_p101 {l : Launch} {rv : Int} {rσ : pS} {G : Nat → pL → List pV → pS → Prop} (H : px_R l 9 175 rv rσ G) : ∀ (n : Nat) (a2 : Int) (σ : pS), f_M_run_84_p101 n a2 σ = some (rv, rσ) → G 101 [some (.inr 84), none, some (.inl a2)] [] σ := by
  intro n
  induction n with
  | zero =>
    intro a2 σ h
    unfold f_M_run_84_p101 at h
    cases h
  | succ n ih =>
    intro a2 σ h
    unfold f_M_run_84_p101 at h
    refine H [((1, 2, 0, 0, []), 1), ((0, 0, 0, 6, []), 2), ((13, 3, 124, 0, []), 3), ((2, 0, 0, 0, []), 1), ((17, 84, 134, 0, []), 3), ((1, 2, 0, 0, []), 1), ((2, 0, 0, 0, []), 1), ((1, 2, 0, 0, []), 1), ((23, 211, 1, 1, [(0, 84)]), 3), ((20, 134, 6, 0, []), 1), ((5, 2, 0, 1, []), 3), ((12, 0, 101, 0, []), 3)] 101 _ _ _ (by decide +kernel) ?_
    rcases px_ite h with ⟨c8, h⟩ | ⟨c8, h⟩
    · refine And.intro (fun _ => ?_) (fun hn => absurd c8 hn)
      refine H [((0, 0, 0, 0, []), 1), ((3, 2, 0, 0, []), 1)] 124 _ _ _ (by decide +kernel) ?_
      exact ok_M_run_84_p126 H _ _ _ h
    · refine And.intro (fun hp => absurd hp c8) (fun _ => ?_)
      obtain ⟨⟨vq21, σq21⟩, hq21, h⟩ := px_bind h
      dsimp only at h
      refine Exists.intro 0 (Exists.intro vq21 (Exists.intro σq21 (And.intro (Nat.le_of_ble_eq_true rfl) (And.intro (ok_M_toldOf_84 hq21) ?_))))
      obtain ⟨g22, h⟩ := px_gd h
      refine And.intro g22 ?_
      exact ih _ _ h
theorem ok_M_run_84_p70 {l : Launch} {rv : Int} {rσ : pS} {G : Nat → pL → List pV → pS → Prop} (H : px_R l 9 175 rv rσ G) : ∀ (n : Nat) (a2 : Int) (σ : pS), f_M_run_84_p70 n a2 σ = some (rv, rσ) → G 70 [some (.inr 84), none, some (.inl a2)] [] σ := by
  intro n
  induction n with
  | zero =>
    intro a2 σ h
    unfold f_M_run_84_p70 at h
    cases h
  | succ n ih =>
    intro a2 σ h
    unfold f_M_run_84_p70 at h
    refine H [((1, 2, 0, 0, []), 1), ((0, 0, 0, 64, []), 2), ((13, 3, 94, 0, []), 3), ((2, 0, 0, 0, []), 1), ((17, 84, 86, 0, []), 3), ((1, 2, 0, 0, []), 1), ((2, 0, 0, 0, []), 1), ((17, 84, 128, 0, []), 3), ((1, 2, 0, 0, []), 1), ((19, 128, 64, 0, []), 1), ((20, 86, 64, 0, []), 1), ((5, 2, 0, 1, []), 3), ((12, 0, 70, 0, []), 3)] 70 _ _ _ (by decide +kernel) ?_
    rcases px_ite h with ⟨c7, h⟩ | ⟨c7, h⟩
    · refine And.intro (fun _ => ?_) (fun hn => absurd c7 hn)
      refine H [((2, 0, 0, 0, []), 1), ((0, 0, 0, 1, []), 1), ((18, 84, 75, 1, []), 3), ((0, 0, 0, 0, []), 1), ((3, 2, 0, 0, []), 1)] 94 _ _ _ (by decide +kernel) ?_
      refine And.intro (show (0 : Int) ≤ 1 ∧ (1 : Int) ≤ 1 from by decide) ?_
      exact ok_M_run_84_p101 H _ _ _ h
    · refine And.intro (fun hp => absurd hp c7) (fun _ => ?_)
      obtain ⟨g23, h⟩ := px_gd h
      refine And.intro g23 ?_
      obtain ⟨g24, h⟩ := px_gd h
      refine And.intro g24 ?_
      exact ih _ _ h
theorem ok_M_run_84_p44 {l : Launch} {rv : Int} {rσ : pS} {G : Nat → pL → List pV → pS → Prop} (H : px_R l 9 175 rv rσ G) : ∀ (n : Nat) (a2 : Int) (σ : pS), f_M_run_84_p44 n a2 σ = some (rv, rσ) → G 44 [some (.inr 84), none, some (.inl a2)] [] σ := by
  intro n
  induction n with
  | zero =>
    intro a2 σ h
    unfold f_M_run_84_p44 at h
    cases h
  | succ n ih =>
    intro a2 σ h
    unfold f_M_run_84_p44 at h
    refine H [((1, 2, 0, 0, []), 1), ((0, 0, 0, 8, []), 2), ((13, 3, 68, 0, []), 3), ((2, 0, 0, 0, []), 1), ((17, 84, 85, 0, []), 3), ((1, 2, 0, 0, []), 1), ((2, 0, 0, 0, []), 1), ((17, 84, 130, 0, []), 3), ((1, 2, 0, 0, []), 1), ((19, 130, 8, 0, []), 1), ((20, 85, 8, 0, []), 1), ((5, 2, 0, 1, []), 3), ((12, 0, 44, 0, []), 3)] 44 _ _ _ (by decide +kernel) ?_
    rcases px_ite h with ⟨c6, h⟩ | ⟨c6, h⟩
    · refine And.intro (fun _ => ?_) (fun hn => absurd c6 hn)
      refine H [((0, 0, 0, 0, []), 1), ((3, 2, 0, 0, []), 1)] 68 _ _ _ (by decide +kernel) ?_
      exact ok_M_run_84_p70 H _ _ _ h
    · refine And.intro (fun hp => absurd hp c6) (fun _ => ?_)
      obtain ⟨g25, h⟩ := px_gd h
      refine And.intro g25 ?_
      obtain ⟨g26, h⟩ := px_gd h
      refine And.intro g26 ?_
      exact ih _ _ h
theorem ok_M_run_84_w {l : Launch} {rv : Int} {rσ : pS} {G : Nat → pL → List pV → pS → Prop} (H : px_R l 9 175 rv rσ G) : ∀ (a1 : Int) (σ : pS), f_M_run_84 a1 σ = some (rv, rσ) → G 0 [some (.inr 84), some (.inl a1), none] [] σ := by
  intro a1 σ h
  unfold f_M_run_84 at h
  refine H [((2, 0, 0, 0, []), 1), ((1, 1, 0, 0, []), 1), ((23, 176, 1, 1, [(0, 84)]), 3), ((14, 1, 10, 0, []), 3), ((0, 0, 0, (-1), []), 1), ((27, 0, 0, 0, []), 1)] 0 _ _ _ (by decide +kernel) ?_
  obtain ⟨⟨vq1, σq1⟩, hq1, h⟩ := px_bind h
  dsimp only at h
  refine Exists.intro 1 (Exists.intro vq1 (Exists.intro σq1 (And.intro (Nat.le_of_ble_eq_true rfl) (And.intro (ok_M_canRun_84 hq1) ?_))))
  rcases px_ite h with ⟨c2, h⟩ | ⟨c2, h⟩
  · refine And.intro (fun hp => absurd c2 hp) (fun _ => ?_)
    exact Prod.mk.inj (Option.some.inj h)
  · refine And.intro (fun _ => ?_) (fun hn => absurd c2 hn)
    refine H [((2, 0, 0, 0, []), 1), ((1, 1, 0, 0, []), 1), ((0, 0, 0, 0, []), 1), ((23, 177, 2, 1, [(0, 84)]), 3), ((14, 1, 26, 0, []), 3), ((2, 0, 0, 0, []), 1), ((23, 210, 0, 0, [(0, 84)]), 3), ((0, 0, 0, (-5), []), 2), ((27, 0, 0, 0, []), 1)] 10 _ _ _ (by decide +kernel) ?_
    obtain ⟨⟨vq3, σq3⟩, hq3, h⟩ := px_bind h
    dsimp only at h
    refine Exists.intro 8 (Exists.intro vq3 (Exists.intro σq3 (And.intro (Nat.le_of_ble_eq_true rfl) (And.intro (ok_M_goesThrough_84 hq3) ?_))))
    rcases px_ite h with ⟨c4, h⟩ | ⟨c4, h⟩
    · refine And.intro (fun hp => absurd c4 hp) (fun _ => ?_)
      obtain ⟨⟨vq27, σq27⟩, hq27, h⟩ := px_bind h
      dsimp only at h
      refine Exists.intro 0 (Exists.intro vq27 (Exists.intro σq27 (And.intro (Nat.le_of_ble_eq_true rfl) (And.intro (ok_M_putsSetsBack_84 hq27) ?_))))
      exact Prod.mk.inj (Option.some.inj h)
    · refine And.intro (fun _ => ?_) (fun hn => absurd c4 hn)
      refine H [((2, 0, 0, 0, []), 1), ((0, 0, 0, 9999, []), 3), ((2, 0, 0, 0, []), 1), ((16, 84, 1, 0, []), 3), ((0, 0, 0, 1, []), 1), ((6, 0, 0, 0, []), 1), ((24, 190, 2, 1, []), 3), ((18, 84, 1, 0, []), 3), ((0, 0, 0, 0, []), 1), ((3, 2, 0, 0, []), 1), ((29, 1, 0, 0, []), 0)] 26 _ _ _ (by decide +kernel) ?_
      obtain ⟨⟨vq5, σq5⟩, hq5, h⟩ := px_bind h
      dsimp only at h
      refine Exists.intro 0 (Exists.intro vq5 (Exists.intro σq5 (And.intro (Nat.le_of_ble_eq_true rfl) (And.intro (ok_M_min hq5) ?_))))
      exact ok_M_run_84_p44 H _ _ _ h
theorem ok_M_run_84 {l : Launch} {a1 : Int} {σ : pS} {v : Int} {σ1 : pS} (h : f_M_run_84 a1 σ = some (v, σ1)) : Con l 9 175 [.inr 84, .inl a1] σ v σ1 := Con_mk 2 3 rfl (by decide +kernel) (fun _ H => ok_M_run_84_w H _ _ h)
