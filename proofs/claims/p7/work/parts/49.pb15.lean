theorem ok_M_toldOfOp_84_w {l : Launch} {rv : Int} {rσ : pS} {G : Nat → pL → List pV → pS → Prop} (H : px_R l 0 227 rv rσ G) : ∀ (a1 a2 : Int) (σ : pS), f_M_toldOfOp_84 a1 a2 σ = some (rv, rσ) → G 0 [some (.inr 84), some (.inl a1), some (.inl a2)] [] σ := by
  intro a1 a2 σ h
  unfold f_M_toldOfOp_84 at h
  refine H [((1, 2, 0, 0, []), 1), ((14, 1, 11, 0, []), 3), ((2, 0, 0, 0, []), 1), ((17, 84, 88, 0, []), 3), ((1, 1, 0, 0, []), 1), ((19, 88, 20, 0, []), 1), ((27, 0, 0, 0, []), 1)] 0 _ _ _ (by decide +kernel) ?_
  rcases px_ite h with ⟨c1, h⟩ | ⟨c1, h⟩
  · refine And.intro (fun hp => absurd c1 hp) (fun _ => ?_)
    obtain ⟨g16, h⟩ := px_gd h
    refine And.intro g16 ?_
    exact Prod.mk.inj (Option.some.inj h)
  · refine And.intro (fun _ => ?_) (fun hn => absurd c1 hn)
    refine H [((1, 2, 0, 0, []), 1), ((0, 0, 0, 1, []), 1), ((13, 1, 38, 0, []), 3), ((2, 0, 0, 0, []), 1), ((17, 84, 87, 0, []), 3), ((1, 1, 0, 0, []), 1), ((19, 87, 20, 0, []), 1), ((0, 0, 0, (-1), []), 1), ((13, 1, 31, 0, []), 3), ((0, 0, 0, (-2), []), 2), ((12, 0, 37, 0, []), 3), ((27, 0, 0, 0, []), 1)] 11 _ _ _ (by decide +kernel) ?_
    rcases px_ite h with ⟨c2, h⟩ | ⟨c2, h⟩
    · refine And.intro (fun hp => absurd c2 hp) (fun _ => ?_)
      obtain ⟨g13, h⟩ := px_gd h
      refine And.intro g13 ?_
      rcases px_ite h with ⟨c14, h⟩ | ⟨c14, h⟩
      · refine And.intro (fun hp => absurd c14 hp) (fun _ => ?_)
        exact Prod.mk.inj (Option.some.inj h)
      · refine And.intro (fun _ => ?_) (fun hn => absurd c14 hn)
        refine H [((2, 0, 0, 0, []), 1), ((17, 84, 87, 0, []), 3), ((1, 1, 0, 0, []), 1), ((19, 87, 20, 0, []), 1), ((27, 0, 0, 0, []), 1)] 31 _ _ _ (by decide +kernel) ?_
        obtain ⟨g15, h⟩ := px_gd h
        refine And.intro g15 ?_
        exact Prod.mk.inj (Option.some.inj h)
    · refine And.intro (fun _ => ?_) (fun hn => absurd c2 hn)
      refine H [((2, 0, 0, 0, []), 1), ((16, 84, 75, 0, []), 3), ((14, 1, 48, 0, []), 3), ((0, 0, 0, (-2), []), 2), ((27, 0, 0, 0, []), 1)] 38 _ _ _ (by decide +kernel) ?_
      rcases px_ite h with ⟨c3, h⟩ | ⟨c3, h⟩
      · refine And.intro (fun hp => absurd c3 hp) (fun _ => ?_)
        exact Prod.mk.inj (Option.some.inj h)
      · refine And.intro (fun _ => ?_) (fun hn => absurd c3 hn)
        refine H [((1, 2, 0, 0, []), 1), ((15, 0, 97, 0, [(2, 76), (3, 83), (4, 90)]), 27)] 48 _ _ _ (by decide +kernel) ?_
        rcases px_ite h with ⟨c4, h⟩ | ⟨c4, h⟩
        · refine And.intro (fun _ => ?_) (fun hn => absurd c4 hn)
          refine H [((2, 0, 0, 0, []), 1), ((17, 84, 135, 0, []), 3), ((1, 1, 0, 0, []), 1), ((19, 135, 20, 0, []), 1), ((27, 0, 0, 0, []), 1)] 76 _ _ _ (by decide +kernel) ?_
          obtain ⟨g5, h⟩ := px_gd h
          refine And.intro g5 ?_
          exact Prod.mk.inj (Option.some.inj h)
        · refine And.intro (fun hp => absurd hp c4) (fun _ => ?_)
          rcases px_ite h with ⟨c6, h⟩ | ⟨c6, h⟩
          · refine And.intro (fun _ => ?_) (fun hn => absurd c6 hn)
            refine H [((2, 0, 0, 0, []), 1), ((17, 84, 136, 0, []), 3), ((1, 1, 0, 0, []), 1), ((19, 136, 20, 0, []), 1), ((27, 0, 0, 0, []), 1)] 83 _ _ _ (by decide +kernel) ?_
            obtain ⟨g7, h⟩ := px_gd h
            refine And.intro g7 ?_
            exact Prod.mk.inj (Option.some.inj h)
          · refine And.intro (fun hp => absurd hp c6) (fun _ => ?_)
            rcases px_ite h with ⟨c8, h⟩ | ⟨c8, h⟩
            · refine And.intro (fun _ => ?_) (fun hn => absurd c8 hn)
              refine H [((2, 0, 0, 0, []), 1), ((17, 84, 137, 0, []), 3), ((1, 1, 0, 0, []), 1), ((19, 137, 20, 0, []), 1), ((27, 0, 0, 0, []), 1)] 90 _ _ _ (by decide +kernel) ?_
              obtain ⟨g9, h⟩ := px_gd h
              refine And.intro g9 ?_
              exact Prod.mk.inj (Option.some.inj h)
            · refine And.intro (fun hp => absurd hp c8) (fun _ => ?_)
              refine H [((2, 0, 0, 0, []), 1), ((17, 84, 88, 0, []), 3), ((1, 1, 0, 0, []), 1), ((19, 88, 20, 0, []), 1), ((0, 0, 0, 2, []), 1), ((13, 3, 112, 0, []), 3), ((0, 0, 0, (-2), []), 2), ((12, 0, 118, 0, []), 3), ((27, 0, 0, 0, []), 1)] 97 _ _ _ (by decide +kernel) ?_
              obtain ⟨g10, h⟩ := px_gd h
              refine And.intro g10 ?_
              rcases px_ite h with ⟨c11, h⟩ | ⟨c11, h⟩
              · refine And.intro (fun _ => ?_) (fun hn => absurd c11 hn)
                refine H [((2, 0, 0, 0, []), 1), ((17, 84, 138, 0, []), 3), ((1, 1, 0, 0, []), 1), ((19, 138, 20, 0, []), 1), ((27, 0, 0, 0, []), 1)] 112 _ _ _ (by decide +kernel) ?_
                obtain ⟨g12, h⟩ := px_gd h
                refine And.intro g12 ?_
                exact Prod.mk.inj (Option.some.inj h)
              · refine And.intro (fun hp => absurd hp c11) (fun _ => ?_)
                exact Prod.mk.inj (Option.some.inj h)
theorem ok_M_toldOfOp_84 {l : Launch} {a1 a2 : Int} {σ : pS} {v : Int} {σ1 : pS} (h : f_M_toldOfOp_84 a1 a2 σ = some (v, σ1)) : Con l 0 227 [.inr 84, .inl a1, .inl a2] σ v σ1 := Con_mk 3 3 rfl (by decide +kernel) (fun _ H => ok_M_toldOfOp_84_w H _ _ _ h)
theorem ok_M_opIs_84_p27 {l : Launch} {rv : Int} {rσ : pS} {G : Nat → pL → List pV → pS → Prop} (H : px_R l 2 226 rv rσ G) : ∀ (a1 a2 : Int) (σ : pS), f_M_opIs_84_p27 a1 a2 σ = some (rv, rσ) → G 27 [some (.inr 84), some (.inl a1), some (.inl a2), none] [] σ := by
  intro a1 a2 σ h
  unfold f_M_opIs_84_p27 at h
  refine H [((1, 2, 0, 0, []), 1), ((0, 0, 0, 10, []), 2), ((13, 3, 40, 0, []), 3), ((2, 0, 0, 0, []), 1), ((1, 1, 0, 0, []), 1), ((1, 2, 0, 0, []), 1), ((23, 227, 2, 1, [(0, 84)]), 3), ((27, 0, 0, 0, []), 1)] 27 _ _ _ (by decide +kernel) ?_
  rcases px_ite h with ⟨c5, h⟩ | ⟨c5, h⟩
  · refine And.intro (fun _ => ?_) (fun hn => absurd c5 hn)
    refine H [((1, 2, 0, 0, []), 1), ((0, 0, 0, 10, []), 2), ((6, 1, 0, 0, []), 1), ((3, 3, 0, 0, []), 1), ((2, 0, 0, 0, []), 1), ((17, 84, 88, 0, []), 3), ((1, 1, 0, 0, []), 1), ((19, 88, 20, 0, []), 1), ((0, 0, 0, 2, []), 1), ((13, 1, 65, 0, []), 3), ((1, 3, 0, 0, []), 1), ((2, 0, 0, 0, []), 1), ((17, 84, 93, 0, []), 3), ((1, 1, 0, 0, []), 1), ((19, 93, 20, 0, []), 1), ((13, 2, 68, 0, []), 3), ((0, 0, 0, (-4), []), 2), ((27, 0, 0, 0, []), 1)] 40 _ _ _ (by decide +kernel) ?_
    obtain ⟨g6, h⟩ := px_gd h
    refine And.intro g6 ?_
    rcases px_ite h with ⟨c7, h⟩ | ⟨c7, h⟩
    · refine And.intro (fun hp => absurd c7 hp) (fun _ => ?_)
      obtain ⟨g8, h⟩ := px_gd h
      refine And.intro g8 ?_
      rcases px_ite h with ⟨c9, h⟩ | ⟨c9, h⟩
      · refine And.intro (fun _ => ?_) (fun hn => absurd c9 hn)
        refine H [((2, 0, 0, 0, []), 1), ((16, 84, 75, 0, []), 3), ((14, 0, 89, 0, []), 3), ((2, 0, 0, 0, []), 1), ((17, 84, 139, 0, []), 3), ((0, 0, 0, 4, []), 1), ((1, 1, 0, 0, []), 1), ((6, 2, 0, 0, []), 1), ((1, 3, 0, 0, []), 1), ((6, 0, 0, 0, []), 1), ((19, 139, 80, 0, []), 1), ((0, 0, 0, (-1), []), 1), ((13, 1, 94, 0, []), 3), ((0, 0, 0, (-2), []), 2), ((12, 0, 104, 0, []), 3), ((27, 0, 0, 0, []), 1)] 68 _ _ _ (by decide +kernel) ?_
        rcases px_ite h with ⟨c10, h⟩ | ⟨c10, h⟩
        · refine And.intro (fun _ => ?_) (fun hn => absurd c10 hn)
          refine H [((0, 0, 0, (-2), []), 2), ((12, 0, 104, 0, []), 3), ((27, 0, 0, 0, []), 1)] 89 _ _ _ (by decide +kernel) ?_
          exact Prod.mk.inj (Option.some.inj h)
        · refine And.intro (fun hp => absurd hp c10) (fun _ => ?_)
          obtain ⟨g11, h⟩ := px_gd h
          refine And.intro g11 ?_
          rcases px_ite h with ⟨c12, h⟩ | ⟨c12, h⟩
          · refine And.intro (fun hp => absurd c12 hp) (fun _ => ?_)
            exact Prod.mk.inj (Option.some.inj h)
          · refine And.intro (fun _ => ?_) (fun hn => absurd c12 hn)
            refine H [((2, 0, 0, 0, []), 1), ((17, 84, 139, 0, []), 3), ((0, 0, 0, 4, []), 1), ((1, 1, 0, 0, []), 1), ((6, 2, 0, 0, []), 1), ((1, 3, 0, 0, []), 1), ((6, 0, 0, 0, []), 1), ((19, 139, 80, 0, []), 1), ((27, 0, 0, 0, []), 1)] 94 _ _ _ (by decide +kernel) ?_
            obtain ⟨g13, h⟩ := px_gd h
            refine And.intro g13 ?_
            exact Prod.mk.inj (Option.some.inj h)
      · refine And.intro (fun hp => absurd hp c9) (fun _ => ?_)
        exact Prod.mk.inj (Option.some.inj h)
    · refine And.intro (fun _ => ?_) (fun hn => absurd c7 hn)
      refine H [((0, 0, 0, (-4), []), 2), ((27, 0, 0, 0, []), 1)] 65 _ _ _ (by decide +kernel) ?_
      exact Prod.mk.inj (Option.some.inj h)
  · refine And.intro (fun hp => absurd hp c5) (fun _ => ?_)
    obtain ⟨⟨vq14, σq14⟩, hq14, h⟩ := px_bind h
    dsimp only at h
    refine Exists.intro 0 (Exists.intro vq14 (Exists.intro σq14 (And.intro (Nat.le_of_ble_eq_true rfl) (And.intro (ok_M_toldOfOp_84 hq14) ?_))))
    exact Prod.mk.inj (Option.some.inj h)
theorem ok_M_opIs_84_w {l : Launch} {rv : Int} {rσ : pS} {G : Nat → pL → List pV → pS → Prop} (H : px_R l 2 226 rv rσ G) : ∀ (a1 a2 : Int) (σ : pS), f_M_opIs_84 a1 a2 σ = some (rv, rσ) → G 0 [some (.inr 84), some (.inl a1), some (.inl a2), none] [] σ := by
  intro a1 a2 σ h
  unfold f_M_opIs_84 at h
  refine H [((2, 0, 0, 0, []), 1), ((1, 1, 0, 0, []), 1), ((23, 171, 1, 1, [(0, 84)]), 3), ((14, 0, 23, 0, []), 3), ((1, 2, 0, 0, []), 1), ((0, 0, 0, 0, []), 1), ((0, 0, 0, 5, []), 1), ((24, 137, 3, 1, []), 3), ((14, 1, 27, 0, []), 3), ((1, 2, 0, 0, []), 1), ((0, 0, 0, 10, []), 2), ((13, 3, 27, 0, []), 3), ((0, 0, 0, (-100000), []), 3), ((27, 0, 0, 0, []), 1)] 0 _ _ _ (by decide +kernel) ?_
  obtain ⟨⟨vq1, σq1⟩, hq1, h⟩ := px_bind h
  dsimp only at h
  refine Exists.intro 1 (Exists.intro vq1 (Exists.intro σq1 (And.intro (Nat.le_of_ble_eq_true rfl) (And.intro (ok_M_isOp_84 hq1) ?_))))
  rcases px_ite h with ⟨c2, h⟩ | ⟨c2, h⟩
  · refine And.intro (fun _ => ?_) (fun hn => absurd c2 hn)
    refine H [((0, 0, 0, (-100000), []), 3), ((27, 0, 0, 0, []), 1)] 23 _ _ _ (by decide +kernel) ?_
    exact Prod.mk.inj (Option.some.inj h)
  · refine And.intro (fun hp => absurd hp c2) (fun _ => ?_)
    obtain ⟨⟨vq3, σq3⟩, hq3, h⟩ := px_bind h
    dsimp only at h
    refine Exists.intro 0 (Exists.intro vq3 (Exists.intro σq3 (And.intro (Nat.le_of_ble_eq_true rfl) (And.intro (ok_M_in hq3) ?_))))
    rcases px_ite h with ⟨c4, h⟩ | ⟨c4, h⟩
    · refine And.intro (fun hp => absurd c4 hp) (fun _ => ?_)
      rcases px_ite h with ⟨c15, h⟩ | ⟨c15, h⟩
      · refine And.intro (fun _ => ?_) (fun hn => absurd c15 hn)
        exact ok_M_opIs_84_p27 H _ _ _ h
      · refine And.intro (fun hp => absurd hp c15) (fun _ => ?_)
        exact Prod.mk.inj (Option.some.inj h)
    · refine And.intro (fun _ => ?_) (fun hn => absurd c4 hn)
      exact ok_M_opIs_84_p27 H _ _ _ h
theorem ok_M_opIs_84 {l : Launch} {a1 a2 : Int} {σ : pS} {v : Int} {σ1 : pS} (h : f_M_opIs_84 a1 a2 σ = some (v, σ1)) : Con l 2 226 [.inr 84, .inl a1, .inl a2] σ v σ1 := Con_mk 3 4 rfl (by decide +kernel) (fun _ H => ok_M_opIs_84_w H _ _ _ h)
theorem ok_X_now_0_w {l : Launch} {rv : Int} {rσ : pS} {G : Nat → pL → List pV → pS → Prop} (H : px_R l 1 109 rv rσ G) : ∀ (a1 : Int) (σ : pS), f_X_now_0 a1 σ = some (rv, rσ) → G 0 [some (.inr 0), some (.inl a1)] [] σ := by
  intro a1 σ h
  unfold f_X_now_0 at h
  refine H [((1, 1, 0, 0, []), 1), ((24, 52, 1, 1, []), 3), ((14, 0, 20, 0, []), 3), ((2, 0, 0, 0, []), 1), ((17, 0, 3, 0, []), 3), ((17, 3, 24, 0, []), 3), ((17, 24, 25, 0, []), 3), ((1, 1, 0, 0, []), 1), ((19, 25, 8, 0, []), 1), ((27, 0, 0, 0, []), 1)] 0 _ _ _ (by decide +kernel) ?_
  obtain ⟨⟨vq1, σq1⟩, hq1, h⟩ := px_bind h
  dsimp only at h
  refine Exists.intro 0 (Exists.intro vq1 (Exists.intro σq1 (And.intro (Nat.le_of_ble_eq_true rfl) (And.intro (ok_X_isCell hq1) ?_))))
  rcases px_ite h with ⟨c2, h⟩ | ⟨c2, h⟩
  · refine And.intro (fun _ => ?_) (fun hn => absurd c2 hn)
    refine H [((1, 1, 0, 0, []), 1), ((24, 101, 1, 1, []), 3), ((14, 0, 45, 0, []), 3), ((2, 0, 0, 0, []), 1), ((17, 0, 3, 0, []), 3), ((17, 3, 24, 0, []), 3), ((17, 24, 26, 0, []), 3), ((1, 1, 0, 0, []), 1), ((0, 0, 0, 100, []), 2), ((6, 1, 0, 0, []), 1), ((19, 26, 64, 0, []), 1), ((12, 0, 47, 0, []), 3), ((27, 0, 0, 0, []), 1)] 20 _ _ _ (by decide +kernel) ?_
    obtain ⟨⟨vq3, σq3⟩, hq3, h⟩ := px_bind h
    dsimp only at h
    refine Exists.intro 0 (Exists.intro vq3 (Exists.intro σq3 (And.intro (Nat.le_of_ble_eq_true rfl) (And.intro (ok_X_isByte hq3) ?_))))
    rcases px_ite h with ⟨c4, h⟩ | ⟨c4, h⟩
    · refine And.intro (fun _ => ?_) (fun hn => absurd c4 hn)
      refine H [((0, 0, 0, (-100000), []), 2), ((27, 0, 0, 0, []), 1)] 45 _ _ _ (by decide +kernel) ?_
      exact Prod.mk.inj (Option.some.inj h)
    · refine And.intro (fun hp => absurd hp c4) (fun _ => ?_)
      obtain ⟨g5, h⟩ := px_gd h
      refine And.intro g5 ?_
      exact Prod.mk.inj (Option.some.inj h)
  · refine And.intro (fun hp => absurd hp c2) (fun _ => ?_)
    obtain ⟨g6, h⟩ := px_gd h
    refine And.intro g6 ?_
    exact Prod.mk.inj (Option.some.inj h)
theorem ok_X_now_0 {l : Launch} {a1 : Int} {σ : pS} {v : Int} {σ1 : pS} (h : f_X_now_0 a1 σ = some (v, σ1)) : Con l 1 109 [.inr 0, .inl a1] σ v σ1 := Con_mk 2 2 rfl (by decide +kernel) (fun _ H => ok_X_now_0_w H _ _ h)
theorem ok_M_now_84_w {l : Launch} {rv : Int} {rσ : pS} {G : Nat → pL → List pV → pS → Prop} (H : px_R l 1 217 rv rσ G) : ∀ (a1 : Int) (σ : pS), f_M_now_84 a1 σ = some (rv, rσ) → G 0 [some (.inr 84), some (.inl a1)] [] σ := by
  intro a1 σ h
  unfold f_M_now_84 at h
  refine H [((1, 1, 0, 0, []), 1), ((0, 0, 0, 0, []), 1), ((0, 0, 0, 7, []), 2), ((24, 137, 3, 1, []), 3), ((14, 0, 19, 0, []), 3), ((2, 0, 0, 0, []), 1), ((17, 84, 85, 0, []), 3), ((1, 1, 0, 0, []), 1), ((19, 85, 8, 0, []), 1), ((12, 0, 46, 0, []), 3), ((27, 0, 0, 0, []), 1)] 0 _ _ _ (by decide +kernel) ?_
  obtain ⟨⟨vq1, σq1⟩, hq1, h⟩ := px_bind h
  dsimp only at h
  refine Exists.intro 0 (Exists.intro vq1 (Exists.intro σq1 (And.intro (Nat.le_of_ble_eq_true rfl) (And.intro (ok_M_in hq1) ?_))))
  rcases px_ite h with ⟨c2, h⟩ | ⟨c2, h⟩
  · refine And.intro (fun _ => ?_) (fun hn => absurd c2 hn)
    refine H [((1, 1, 0, 0, []), 1), ((0, 0, 0, 100, []), 2), ((0, 0, 0, 163, []), 3), ((24, 137, 3, 1, []), 3), ((14, 0, 43, 0, []), 3), ((2, 0, 0, 0, []), 1), ((17, 84, 86, 0, []), 3), ((1, 1, 0, 0, []), 1), ((0, 0, 0, 100, []), 2), ((6, 1, 0, 0, []), 1), ((19, 86, 64, 0, []), 1), ((12, 0, 46, 0, []), 3), ((27, 0, 0, 0, []), 1)] 19 _ _ _ (by decide +kernel) ?_
    obtain ⟨⟨vq3, σq3⟩, hq3, h⟩ := px_bind h
    dsimp only at h
    refine Exists.intro 0 (Exists.intro vq3 (Exists.intro σq3 (And.intro (Nat.le_of_ble_eq_true rfl) (And.intro (ok_M_in hq3) ?_))))
    rcases px_ite h with ⟨c4, h⟩ | ⟨c4, h⟩
    · refine And.intro (fun _ => ?_) (fun hn => absurd c4 hn)
      refine H [((0, 0, 0, (-100000), []), 3), ((27, 0, 0, 0, []), 1)] 43 _ _ _ (by decide +kernel) ?_
      exact Prod.mk.inj (Option.some.inj h)
    · refine And.intro (fun hp => absurd hp c4) (fun _ => ?_)
      obtain ⟨g5, h⟩ := px_gd h
      refine And.intro g5 ?_
      exact Prod.mk.inj (Option.some.inj h)
  · refine And.intro (fun hp => absurd hp c2) (fun _ => ?_)
    obtain ⟨g6, h⟩ := px_gd h
    refine And.intro g6 ?_
    exact Prod.mk.inj (Option.some.inj h)
theorem ok_M_now_84 {l : Launch} {a1 : Int} {σ : pS} {v : Int} {σ1 : pS} (h : f_M_now_84 a1 σ = some (v, σ1)) : Con l 1 217 [.inr 84, .inl a1] σ v σ1 := Con_mk 2 2 rfl (by decide +kernel) (fun _ H => ok_M_now_84_w H _ _ h)
theorem ok_State_copyCellsFrom_66_24_w {l : Launch} {rv : Int} {rσ : pS} {G : Nat → pL → List pV → pS → Prop} (H : px_R l 1 62 rv rσ G) : ∀ (σ : pS), f_State_copyCellsFrom_66_24  σ = some (rv, rσ) → G 0 [some (.inr 66), some (.inr 24)] [] σ := by
  intro  σ h
  unfold f_State_copyCellsFrom_66_24 at h
  refine H [((2, 1, 0, 0, []), 1), ((17, 24, 25, 0, []), 3), ((0, 0, 0, 0, []), 1), ((2, 0, 0, 0, []), 1), ((17, 66, 67, 0, []), 3), ((0, 0, 0, 0, []), 1), ((0, 0, 0, 8, []), 2), ((26, 25, 67, 8, []), 3), ((2, 1, 0, 0, []), 1), ((17, 24, 26, 0, []), 3), ((0, 0, 0, 0, []), 1), ((2, 0, 0, 0, []), 1), ((17, 66, 68, 0, []), 3), ((0, 0, 0, 0, []), 1), ((0, 0, 0, 64, []), 2), ((26, 26, 68, 64, []), 3), ((2, 0, 0, 0, []), 1), ((2, 1, 0, 0, []), 1), ((16, 24, 4, 0, []), 3), ((18, 66, 4, 0, []), 3), ((2, 0, 0, 0, []), 1), ((2, 1, 0, 0, []), 1), ((16, 24, 5, 0, []), 3), ((18, 66, 5, 0, []), 3), ((28, 0, 0, 0, []), 1)] 0 _ _ _ (by decide +kernel) ?_
  exact (Prod.mk.inj (Option.some.inj h)).2
theorem ok_State_copyCellsFrom_66_24 {l : Launch} {σ : pS} {v : Int} {σ1 : pS} (h : f_State_copyCellsFrom_66_24  σ = some (v, σ1)) : Con l 1 62 [.inr 66, .inr 24] σ v σ1 := Con_mk 2 2 rfl (by decide +kernel) (fun _ H => ok_State_copyCellsFrom_66_24_w H  _ h)
theorem ok_State_copySetsFrom_66_24_w {l : Launch} {rv : Int} {rσ : pS} {G : Nat → pL → List pV → pS → Prop} (H : px_R l 1 63 rv rσ G) : ∀ (σ : pS), f_State_copySetsFrom_66_24  σ = some (rv, rσ) → G 0 [some (.inr 66), some (.inr 24)] [] σ := by
  intro  σ h
  unfold f_State_copySetsFrom_66_24 at h
  refine H [((2, 1, 0, 0, []), 1), ((17, 24, 27, 0, []), 3), ((0, 0, 0, 0, []), 1), ((2, 0, 0, 0, []), 1), ((17, 66, 69, 0, []), 3), ((0, 0, 0, 0, []), 1), ((0, 0, 0, 20, []), 2), ((26, 27, 69, 20, []), 3), ((2, 0, 0, 0, []), 1), ((2, 1, 0, 0, []), 1), ((16, 24, 3, 0, []), 3), ((18, 66, 3, 0, []), 3), ((28, 0, 0, 0, []), 1)] 0 _ _ _ (by decide +kernel) ?_
  exact (Prod.mk.inj (Option.some.inj h)).2
theorem ok_State_copySetsFrom_66_24 {l : Launch} {σ : pS} {v : Int} {σ1 : pS} (h : f_State_copySetsFrom_66_24  σ = some (v, σ1)) : Con l 1 63 [.inr 66, .inr 24] σ v σ1 := Con_mk 2 2 rfl (by decide +kernel) (fun _ H => ok_State_copySetsFrom_66_24_w H  _ h)
theorem ok_State_copyFrom_66_24_w {l : Launch} {rv : Int} {rσ : pS} {G : Nat → pL → List pV → pS → Prop} (H : px_R l 2 61 rv rσ G) : ∀ (σ : pS), f_State_copyFrom_66_24  σ = some (rv, rσ) → G 0 [some (.inr 66), some (.inr 24)] [] σ := by
  intro  σ h
  unfold f_State_copyFrom_66_24 at h
  refine H [((2, 0, 0, 0, []), 1), ((2, 1, 0, 0, []), 1), ((23, 62, 1, 0, [(0, 66)]), 3), ((2, 0, 0, 0, []), 1), ((2, 1, 0, 0, []), 1), ((23, 63, 1, 0, [(0, 66)]), 3), ((28, 0, 0, 0, []), 1)] 0 _ _ _ (by decide +kernel) ?_
  obtain ⟨⟨vq1, σq1⟩, hq1, h⟩ := px_bind h
  dsimp only at h
  refine Exists.intro 1 (Exists.intro vq1 (Exists.intro σq1 (And.intro (Nat.le_of_ble_eq_true rfl) (And.intro (ok_State_copyCellsFrom_66_24 hq1) ?_))))
  obtain ⟨⟨vq2, σq2⟩, hq2, h⟩ := px_bind h
  dsimp only at h
  refine Exists.intro 1 (Exists.intro vq2 (Exists.intro σq2 (And.intro (Nat.le_of_ble_eq_true rfl) (And.intro (ok_State_copySetsFrom_66_24 hq2) ?_))))
  exact (Prod.mk.inj (Option.some.inj h)).2
theorem ok_State_copyFrom_66_24 {l : Launch} {σ : pS} {v : Int} {σ1 : pS} (h : f_State_copyFrom_66_24  σ = some (v, σ1)) : Con l 2 61 [.inr 66, .inr 24] σ v σ1 := Con_mk 2 2 rfl (by decide +kernel) (fun _ H => ok_State_copyFrom_66_24_w H  _ h)
theorem ok_Plain_valueIn_65_w {l : Launch} {rv : Int} {rσ : pS} {G : Nat → pL → List pV → pS → Prop} (H : px_R l 1 112 rv rσ G) : ∀ (a1 : Int) (σ : pS), f_Plain_valueIn_65 a1 σ = some (rv, rσ) → G 0 [some (.inr 65), some (.inl a1)] [] σ := by
  intro a1 σ h
  unfold f_Plain_valueIn_65 at h
  refine H [((1, 1, 0, 0, []), 1), ((24, 52, 1, 1, []), 3), ((14, 0, 19, 0, []), 3), ((2, 0, 0, 0, []), 1), ((17, 65, 66, 0, []), 3), ((17, 66, 67, 0, []), 3), ((1, 1, 0, 0, []), 1), ((19, 67, 8, 0, []), 1), ((12, 0, 20, 0, []), 3), ((27, 0, 0, 0, []), 1)] 0 _ _ _ (by decide +kernel) ?_
  obtain ⟨⟨vq1, σq1⟩, hq1, h⟩ := px_bind h
  dsimp only at h
  refine Exists.intro 0 (Exists.intro vq1 (Exists.intro σq1 (And.intro (Nat.le_of_ble_eq_true rfl) (And.intro (ok_X_isCell hq1) ?_))))
  rcases px_ite h with ⟨c2, h⟩ | ⟨c2, h⟩
  · refine And.intro (fun _ => ?_) (fun hn => absurd c2 hn)
    refine H [((0, 0, 0, 0, []), 1), ((27, 0, 0, 0, []), 1)] 19 _ _ _ (by decide +kernel) ?_
    exact Prod.mk.inj (Option.some.inj h)
  · refine And.intro (fun hp => absurd hp c2) (fun _ => ?_)
    obtain ⟨g3, h⟩ := px_gd h
    refine And.intro g3 ?_
    exact Prod.mk.inj (Option.some.inj h)
theorem ok_Plain_valueIn_65 {l : Launch} {a1 : Int} {σ : pS} {v : Int} {σ1 : pS} (h : f_Plain_valueIn_65 a1 σ = some (v, σ1)) : Con l 1 112 [.inr 65, .inl a1] σ v σ1 := Con_mk 2 2 rfl (by decide +kernel) (fun _ H => ok_Plain_valueIn_65_w H _ _ h)
theorem ok_Plain_loaded_65_p5 {l : Launch} {rv : Int} {rσ : pS} {G : Nat → pL → List pV → pS → Prop} (H : px_R l 0 113 rv rσ G) : ∀ (n : Nat) (a1 a2 a3 a4 : Int) (σ : pS), f_Plain_loaded_65_p5 n a1 a2 a3 a4 σ = some (rv, rσ) → G 5 [some (.inr 65), some (.inl a1), some (.inl a2), some (.inl a3), some (.inl a4)] [] σ := by
  intro n
  induction n with
  | zero =>
    intro a1 a2 a3 a4 σ h
    unfold f_Plain_loaded_65_p5 at h
    cases h
  | succ n ih =>
    intro a1 a2 a3 a4 σ h
    unfold f_Plain_loaded_65_p5 at h
    refine H [((1, 4, 0, 0, []), 2), ((1, 2, 0, 0, []), 1), ((13, 3, 41, 0, []), 3), ((1, 3, 0, 0, []), 1), ((2, 0, 0, 0, []), 1), ((17, 65, 66, 0, []), 3), ((17, 66, 68, 0, []), 3), ((1, 1, 0, 0, []), 1), ((1, 4, 0, 0, []), 2), ((6, 0, 0, 0, []), 1), ((0, 0, 0, 63, []), 2), ((6, 3, 0, 0, []), 1), ((19, 68, 64, 0, []), 1), ((0, 0, 0, 8, []), 2), ((1, 4, 0, 0, []), 2), ((6, 2, 0, 0, []), 1), ((6, 6, 0, 0, []), 1), ((6, 4, 0, 0, []), 1), ((3, 3, 0, 0, []), 1), ((5, 4, 0, 1, []), 3), ((12, 0, 5, 0, []), 3)] 5 _ _ _ (by decide +kernel) ?_
    rcases px_ite h with ⟨c1, h⟩ | ⟨c1, h⟩
    · refine And.intro (fun _ => ?_) (fun hn => absurd c1 hn)
      refine H [((1, 3, 0, 0, []), 1), ((27, 0, 0, 0, []), 1)] 41 _ _ _ (by decide +kernel) ?_
      exact Prod.mk.inj (Option.some.inj h)
    · refine And.intro (fun hp => absurd hp c1) (fun _ => ?_)
      obtain ⟨g2, h⟩ := px_gd h
      refine And.intro g2 ?_
      exact ih _ _ _ _ _ h
theorem ok_Plain_loaded_65_w {l : Launch} {rv : Int} {rσ : pS} {G : Nat → pL → List pV → pS → Prop} (H : px_R l 0 113 rv rσ G) : ∀ (a1 a2 : Int) (σ : pS), f_Plain_loaded_65 a1 a2 σ = some (rv, rσ) → G 0 [some (.inr 65), some (.inl a1), some (.inl a2), none, none] [] σ := by
  intro a1 a2 σ h
  unfold f_Plain_loaded_65 at h
  refine H [((0, 0, 0, 0, []), 1), ((3, 3, 0, 0, []), 1), ((0, 0, 0, 0, []), 1), ((3, 4, 0, 0, []), 2)] 0 _ _ _ (by decide +kernel) ?_
  exact ok_Plain_loaded_65_p5 H _ _ _ _ _ _ h
theorem ok_Plain_loaded_65 {l : Launch} {a1 a2 : Int} {σ : pS} {v : Int} {σ1 : pS} (h : f_Plain_loaded_65 a1 a2 σ = some (v, σ1)) : Con l 0 113 [.inr 65, .inl a1, .inl a2] σ v σ1 := Con_mk 3 5 rfl (by decide +kernel) (fun _ H => ok_Plain_loaded_65_w H _ _ _ h)
theorem ok_State_putBytes_66_p3 {l : Launch} {rv : Int} {rσ : pS} {G : Nat → pL → List pV → pS → Prop} (H : px_R l 0 95 rv rσ G) : ∀ (n : Nat) (a1 a2 a3 a4 : Int) (σ : pS), f_State_putBytes_66_p3 n a1 a2 a3 a4 σ = some (rv, rσ) → G 3 [some (.inr 66), some (.inl a1), some (.inl a2), some (.inl a3), some (.inl a4)] [] σ := by
  intro n
  induction n with
  | zero =>
    intro a1 a2 a3 a4 σ h
    unfold f_State_putBytes_66_p3 at h
    cases h
  | succ n ih =>
    intro a1 a2 a3 a4 σ h
    unfold f_State_putBytes_66_p3 at h
    refine H [((1, 4, 0, 0, []), 2), ((1, 2, 0, 0, []), 1), ((13, 3, 38, 0, []), 3), ((2, 0, 0, 0, []), 1), ((17, 66, 68, 0, []), 3), ((1, 1, 0, 0, []), 1), ((1, 4, 0, 0, []), 2), ((6, 0, 0, 0, []), 1), ((0, 0, 0, 63, []), 2), ((6, 3, 0, 0, []), 1), ((1, 3, 0, 0, []), 1), ((0, 0, 0, 8, []), 2), ((1, 4, 0, 0, []), 2), ((6, 2, 0, 0, []), 1), ((6, 8, 0, 0, []), 1), ((0, 0, 0, 255, []), 3), ((6, 3, 0, 0, []), 1), ((20, 68, 64, 0, []), 1), ((5, 4, 0, 1, []), 3), ((12, 0, 3, 0, []), 3)] 3 _ _ _ (by decide +kernel) ?_
    rcases px_ite h with ⟨c1, h⟩ | ⟨c1, h⟩
    · refine And.intro (fun _ => ?_) (fun hn => absurd c1 hn)
      refine H [((28, 0, 0, 0, []), 1)] 38 _ _ _ (by decide +kernel) ?_
      exact (Prod.mk.inj (Option.some.inj h)).2
    · refine And.intro (fun hp => absurd hp c1) (fun _ => ?_)
      obtain ⟨g2, h⟩ := px_gd h
      refine And.intro g2 ?_
      exact ih _ _ _ _ _ h
theorem ok_State_putBytes_66_w {l : Launch} {rv : Int} {rσ : pS} {G : Nat → pL → List pV → pS → Prop} (H : px_R l 0 95 rv rσ G) : ∀ (a1 a2 a3 : Int) (σ : pS), f_State_putBytes_66 a1 a2 a3 σ = some (rv, rσ) → G 0 [some (.inr 66), some (.inl a1), some (.inl a2), some (.inl a3), none] [] σ := by
  intro a1 a2 a3 σ h
  unfold f_State_putBytes_66 at h
  refine H [((0, 0, 0, 0, []), 1), ((3, 4, 0, 0, []), 2)] 0 _ _ _ (by decide +kernel) ?_
  exact ok_State_putBytes_66_p3 H _ _ _ _ _ _ h
theorem ok_State_putBytes_66 {l : Launch} {a1 a2 a3 : Int} {σ : pS} {v : Int} {σ1 : pS} (h : f_State_putBytes_66 a1 a2 a3 σ = some (v, σ1)) : Con l 0 95 [.inr 66, .inl a1, .inl a2, .inl a3] σ v σ1 := Con_mk 4 5 rfl (by decide +kernel) (fun _ H => ok_State_putBytes_66_w H _ _ _ _ h)
theorem ok_Plain_go_65_4_24_p10 {l : Launch} {rv : Int} {rσ : pS} {G : Nat → pL → List pV → pS → Prop} (H : px_R l 3 111 rv rσ G) : ∀ (n : Nat) (a3 : Int) (σ : pS), f_Plain_go_65_4_24_p10 n a3 σ = some (rv, rσ) → G 10 [some (.inr 65), some (.inr 4), none, some (.inl a3), none, none] [] σ := by
  intro n
  induction n with
  | zero =>
    intro a3 σ h
    unfold f_Plain_go_65_4_24_p10 at h
    cases h
  | succ n ih =>
    intro a3 σ h
    unfold f_Plain_go_65_4_24_p10 at h
    refine H [((1, 3, 0, 0, []), 1), ((2, 1, 0, 0, []), 1), ((16, 4, 11, 0, []), 3), ((13, 3, 159, 0, []), 3), ((2, 0, 0, 0, []), 1), ((2, 1, 0, 0, []), 1), ((17, 4, 9, 0, []), 3), ((1, 3, 0, 0, []), 1), ((19, 9, 20, 0, []), 1), ((23, 112, 1, 1, [(0, 65)]), 3), ((3, 4, 0, 0, []), 2), ((2, 0, 0, 0, []), 1), ((2, 1, 0, 0, []), 1), ((17, 4, 10, 0, []), 3), ((1, 3, 0, 0, []), 1), ((19, 10, 20, 0, []), 1), ((23, 112, 1, 1, [(0, 65)]), 3), ((3, 5, 0, 0, []), 2), ((2, 0, 0, 0, []), 1), ((17, 65, 70, 0, []), 3), ((1, 3, 0, 0, []), 1), ((2, 1, 0, 0, []), 1), ((1, 3, 0, 0, []), 1), ((1, 5, 0, 0, []), 2), ((23, 67, 2, 1, [(0, 4)]), 3), ((20, 70, 20, 0, []), 1), ((2, 1, 0, 0, []), 1), ((17, 4, 5, 0, []), 3), ((1, 3, 0, 0, []), 1), ((19, 5, 20, 0, []), 1), ((0, 0, 0, 3, []), 1), ((13, 1, 89, 0, []), 3), ((2, 0, 0, 0, []), 1), ((17, 65, 66, 0, []), 3), ((2, 0, 0, 0, []), 1), ((17, 65, 70, 0, []), 3), ((1, 3, 0, 0, []), 1), ((19, 70, 20, 0, []), 1), ((2, 1, 0, 0, []), 1), ((17, 4, 7, 0, []), 3), ((1, 3, 0, 0, []), 1), ((19, 7, 20, 0, []), 1), ((1, 4, 0, 0, []), 2), ((23, 95, 3, 0, [(0, 66)]), 3), ((12, 0, 153, 0, []), 3), ((5, 3, 0, 1, []), 3), ((12, 0, 10, 0, []), 3), ((29, 4, 0, 0, []), 0), ((29, 5, 0, 0, []), 0)] 10 _ _ _ (by decide +kernel) ?_
    rcases px_ite h with ⟨c2, h⟩ | ⟨c2, h⟩
    · refine And.intro (fun _ => ?_) (fun hn => absurd c2 hn)
      refine H [((28, 0, 0, 0, []), 1)] 159 _ _ _ (by decide +kernel) ?_
      exact (Prod.mk.inj (Option.some.inj h)).2
    · refine And.intro (fun hp => absurd hp c2) (fun _ => ?_)
      obtain ⟨g3, h⟩ := px_gd h
      refine And.intro g3 ?_
      obtain ⟨⟨vq4, σq4⟩, hq4, h⟩ := px_bind h
      dsimp only at h
      refine Exists.intro 1 (Exists.intro vq4 (Exists.intro σq4 (And.intro (Nat.le_of_ble_eq_true rfl) (And.intro (ok_Plain_valueIn_65 hq4) ?_))))
      obtain ⟨g5, h⟩ := px_gd h
      refine And.intro g5 ?_
      obtain ⟨⟨vq6, σq6⟩, hq6, h⟩ := px_bind h
      dsimp only at h
      refine Exists.intro 1 (Exists.intro vq6 (Exists.intro σq6 (And.intro (Nat.le_of_ble_eq_true rfl) (And.intro (ok_Plain_valueIn_65 hq6) ?_))))
      obtain ⟨⟨vq7, σq7⟩, hq7, h⟩ := px_bind h
      dsimp only at h
      refine Exists.intro 0 (Exists.intro vq7 (Exists.intro σq7 (And.intro (Nat.le_of_ble_eq_true rfl) (And.intro (ok_Prog_placeBy_4 hq7) ?_))))
      obtain ⟨g8, h⟩ := px_gd h
      refine And.intro g8 ?_
      obtain ⟨g9, h⟩ := px_gd h
      refine And.intro g9 ?_
      rcases px_ite h with ⟨c10, h⟩ | ⟨c10, h⟩
      · refine And.intro (fun hp => absurd c10 hp) (fun _ => ?_)
        obtain ⟨g23, h⟩ := px_gd h
        refine And.intro g23 ?_
        obtain ⟨g24, h⟩ := px_gd h
        refine And.intro g24 ?_
        obtain ⟨⟨vq25, σq25⟩, hq25, h⟩ := px_bind h
        dsimp only at h
        refine Exists.intro 0 (Exists.intro vq25 (Exists.intro σq25 (And.intro (Nat.le_of_ble_eq_true rfl) (And.intro (ok_State_putBytes_66 hq25) ?_))))
        exact ih _ _ h
      · refine And.intro (fun _ => ?_) (fun hn => absurd c10 hn)
        refine H [((2, 1, 0, 0, []), 1), ((17, 4, 8, 0, []), 3), ((1, 3, 0, 0, []), 1), ((19, 8, 20, 0, []), 1), ((24, 52, 1, 1, []), 3), ((14, 0, 153, 0, []), 3), ((2, 0, 0, 0, []), 1), ((17, 65, 66, 0, []), 3), ((17, 66, 67, 0, []), 3), ((2, 1, 0, 0, []), 1), ((17, 4, 8, 0, []), 3), ((1, 3, 0, 0, []), 1), ((19, 8, 20, 0, []), 1), ((2, 1, 0, 0, []), 1), ((17, 4, 5, 0, []), 3), ((1, 3, 0, 0, []), 1), ((19, 5, 20, 0, []), 1), ((0, 0, 0, 2, []), 1), ((13, 1, 143, 0, []), 3), ((2, 0, 0, 0, []), 1), ((2, 0, 0, 0, []), 1), ((17, 65, 70, 0, []), 3), ((1, 3, 0, 0, []), 1), ((19, 70, 20, 0, []), 1), ((2, 1, 0, 0, []), 1), ((17, 4, 7, 0, []), 3), ((1, 3, 0, 0, []), 1), ((19, 7, 20, 0, []), 1), ((23, 113, 2, 1, [(0, 65)]), 3), ((12, 0, 152, 0, []), 3), ((20, 67, 8, 0, []), 1), ((5, 3, 0, 1, []), 3), ((12, 0, 10, 0, []), 3), ((29, 4, 0, 0, []), 0), ((29, 5, 0, 0, []), 0)] 89 _ _ _ (by decide +kernel) ?_
        obtain ⟨g11, h⟩ := px_gd h
        refine And.intro g11 ?_
        obtain ⟨⟨vq12, σq12⟩, hq12, h⟩ := px_bind h
        dsimp only at h
        refine Exists.intro 0 (Exists.intro vq12 (Exists.intro σq12 (And.intro (Nat.le_of_ble_eq_true rfl) (And.intro (ok_X_isCell hq12) ?_))))
        rcases px_ite h with ⟨c13, h⟩ | ⟨c13, h⟩
        · refine And.intro (fun _ => ?_) (fun hn => absurd c13 hn)
          refine H [((5, 3, 0, 1, []), 3), ((12, 0, 10, 0, []), 3), ((29, 4, 0, 0, []), 0), ((29, 5, 0, 0, []), 0)] 153 _ _ _ (by decide +kernel) ?_
          exact ih _ _ h
        · refine And.intro (fun hp => absurd hp c13) (fun _ => ?_)
          obtain ⟨g14, h⟩ := px_gd h
          refine And.intro g14 ?_
          obtain ⟨g15, h⟩ := px_gd h
          refine And.intro g15 ?_
          rcases px_ite h with ⟨c16, h⟩ | ⟨c16, h⟩
          · refine And.intro (fun hp => absurd c16 hp) (fun _ => ?_)
            obtain ⟨g19, h⟩ := px_gd h
            refine And.intro g19 ?_
            obtain ⟨g20, h⟩ := px_gd h
            refine And.intro g20 ?_
            obtain ⟨⟨vq21, σq21⟩, hq21, h⟩ := px_bind h
            dsimp only at h
            refine Exists.intro 0 (Exists.intro vq21 (Exists.intro σq21 (And.intro (Nat.le_of_ble_eq_true rfl) (And.intro (ok_Plain_loaded_65 hq21) ?_))))
            obtain ⟨g22, h⟩ := px_gd h
            refine And.intro g22 ?_
            exact ih _ _ h
          · refine And.intro (fun _ => ?_) (fun hn => absurd c16 hn)
            refine H [((2, 1, 0, 0, []), 1), ((1, 3, 0, 0, []), 1), ((1, 4, 0, 0, []), 2), ((1, 5, 0, 0, []), 2), ((23, 80, 3, 1, [(0, 4)]), 3), ((20, 67, 8, 0, []), 1), ((5, 3, 0, 1, []), 3), ((12, 0, 10, 0, []), 3), ((29, 4, 0, 0, []), 0), ((29, 5, 0, 0, []), 0)] 143 _ _ _ (by decide +kernel) ?_
            obtain ⟨⟨vq17, σq17⟩, hq17, h⟩ := px_bind h
            dsimp only at h
            refine Exists.intro 0 (Exists.intro vq17 (Exists.intro σq17 (And.intro (Nat.le_of_ble_eq_true rfl) (And.intro (ok_Prog_reckoned_4 hq17) ?_))))
            obtain ⟨g18, h⟩ := px_gd h
            refine And.intro g18 ?_
            exact ih _ _ h
theorem ok_Plain_go_65_4_24_w {l : Launch} {rv : Int} {rσ : pS} {G : Nat → pL → List pV → pS → Prop} (H : px_R l 3 111 rv rσ G) : ∀ (σ : pS), f_Plain_go_65_4_24  σ = some (rv, rσ) → G 0 [some (.inr 65), some (.inr 4), some (.inr 24), none, none, none] [] σ := by
  intro  σ h
  unfold f_Plain_go_65_4_24 at h
  refine H [((2, 0, 0, 0, []), 1), ((17, 65, 66, 0, []), 3), ((2, 2, 0, 0, []), 1), ((23, 61, 1, 0, [(0, 66)]), 3), ((0, 0, 0, 0, []), 1), ((3, 3, 0, 0, []), 1), ((29, 2, 0, 0, []), 0)] 0 _ _ _ (by decide +kernel) ?_
  obtain ⟨⟨vq1, σq1⟩, hq1, h⟩ := px_bind h
  dsimp only at h
  refine Exists.intro 2 (Exists.intro vq1 (Exists.intro σq1 (And.intro (Nat.le_of_ble_eq_true rfl) (And.intro (ok_State_copyFrom_66_24 hq1) ?_))))
  exact ok_Plain_go_65_4_24_p10 H _ _ _ h
theorem ok_Plain_go_65_4_24 {l : Launch} {σ : pS} {v : Int} {σ1 : pS} (h : f_Plain_go_65_4_24  σ = some (v, σ1)) : Con l 3 111 [.inr 65, .inr 4, .inr 24] σ v σ1 := Con_mk 3 6 rfl (by decide +kernel) (fun _ H => ok_Plain_go_65_4_24_w H  _ h)
theorem ok_X_plain_0_p17 {l : Launch} {rv : Int} {rσ : pS} {G : Nat → pL → List pV → pS → Prop} (H : px_R l 4 110 rv rσ G) : ∀ (a1 : Int) (σ : pS), f_X_plain_0_p17 a1 σ = some (rv, rσ) → G 17 [some (.inr 0), some (.inl a1)] [] σ := by
  intro a1 σ h
  unfold f_X_plain_0_p17 at h
  refine H [((2, 0, 0, 0, []), 1), ((17, 0, 65, 0, []), 3), ((2, 0, 0, 0, []), 1), ((17, 0, 3, 0, []), 3), ((17, 3, 4, 0, []), 3), ((2, 0, 0, 0, []), 1), ((17, 0, 3, 0, []), 3), ((17, 3, 24, 0, []), 3), ((23, 111, 2, 0, [(0, 65)]), 3), ((1, 1, 0, 0, []), 1), ((24, 52, 1, 1, []), 3), ((14, 0, 60, 0, []), 3), ((2, 0, 0, 0, []), 1), ((17, 0, 65, 0, []), 3), ((17, 65, 66, 0, []), 3), ((17, 66, 67, 0, []), 3), ((1, 1, 0, 0, []), 1), ((19, 67, 8, 0, []), 1), ((12, 0, 75, 0, []), 3), ((27, 0, 0, 0, []), 1)] 17 _ _ _ (by decide +kernel) ?_
  obtain ⟨⟨vq3, σq3⟩, hq3, h⟩ := px_bind h
  dsimp only at h
  refine Exists.intro 3 (Exists.intro vq3 (Exists.intro σq3 (And.intro (Nat.le_of_ble_eq_true rfl) (And.intro (ok_Plain_go_65_4_24 hq3) ?_))))
  obtain ⟨⟨vq4, σq4⟩, hq4, h⟩ := px_bind h
  dsimp only at h
  refine Exists.intro 0 (Exists.intro vq4 (Exists.intro σq4 (And.intro (Nat.le_of_ble_eq_true rfl) (And.intro (ok_X_isCell hq4) ?_))))
  rcases px_ite h with ⟨c5, h⟩ | ⟨c5, h⟩
  · refine And.intro (fun _ => ?_) (fun hn => absurd c5 hn)
    refine H [((2, 0, 0, 0, []), 1), ((17, 0, 65, 0, []), 3), ((17, 65, 66, 0, []), 3), ((17, 66, 68, 0, []), 3), ((1, 1, 0, 0, []), 1), ((0, 0, 0, 100, []), 2), ((6, 1, 0, 0, []), 1), ((19, 68, 64, 0, []), 1), ((27, 0, 0, 0, []), 1)] 60 _ _ _ (by decide +kernel) ?_
    obtain ⟨g6, h⟩ := px_gd h
    refine And.intro g6 ?_
    exact Prod.mk.inj (Option.some.inj h)
  · refine And.intro (fun hp => absurd hp c5) (fun _ => ?_)
    obtain ⟨g7, h⟩ := px_gd h
    refine And.intro g7 ?_
    exact Prod.mk.inj (Option.some.inj h)
theorem ok_X_plain_0_w {l : Launch} {rv : Int} {rσ : pS} {G : Nat → pL → List pV → pS → Prop} (H : px_R l 4 110 rv rσ G) : ∀ (a1 : Int) (σ : pS), f_X_plain_0 a1 σ = some (rv, rσ) → G 0 [some (.inr 0), some (.inl a1)] [] σ := by
  intro a1 σ h
  unfold f_X_plain_0 at h
  refine H [((1, 1, 0, 0, []), 1), ((24, 52, 1, 1, []), 3), ((14, 1, 17, 0, []), 3), ((1, 1, 0, 0, []), 1), ((24, 101, 1, 1, []), 3), ((14, 1, 17, 0, []), 3), ((0, 0, 0, (-100000), []), 2), ((27, 0, 0, 0, []), 1)] 0 _ _ _ (by decide +kernel) ?_
  obtain ⟨⟨vq1, σq1⟩, hq1, h⟩ := px_bind h
  dsimp only at h
  refine Exists.intro 0 (Exists.intro vq1 (Exists.intro σq1 (And.intro (Nat.le_of_ble_eq_true rfl) (And.intro (ok_X_isCell hq1) ?_))))
  rcases px_ite h with ⟨c2, h⟩ | ⟨c2, h⟩
  · refine And.intro (fun hp => absurd c2 hp) (fun _ => ?_)
    obtain ⟨⟨vq8, σq8⟩, hq8, h⟩ := px_bind h
    dsimp only at h
    refine Exists.intro 0 (Exists.intro vq8 (Exists.intro σq8 (And.intro (Nat.le_of_ble_eq_true rfl) (And.intro (ok_X_isByte hq8) ?_))))
    rcases px_ite h with ⟨c9, h⟩ | ⟨c9, h⟩
    · refine And.intro (fun hp => absurd c9 hp) (fun _ => ?_)
      exact Prod.mk.inj (Option.some.inj h)
    · refine And.intro (fun _ => ?_) (fun hn => absurd c9 hn)
      exact ok_X_plain_0_p17 H _ _ h
  · refine And.intro (fun _ => ?_) (fun hn => absurd c2 hn)
    exact ok_X_plain_0_p17 H _ _ h
theorem ok_X_plain_0 {l : Launch} {a1 : Int} {σ : pS} {v : Int} {σ1 : pS} (h : f_X_plain_0 a1 σ = some (v, σ1)) : Con l 4 110 [.inr 0, .inl a1] σ v σ1 := Con_mk 2 2 rfl (by decide +kernel) (fun _ H => ok_X_plain_0_w H _ _ h)
theorem ok_M_doesPlain_84_p128 {l : Launch} {rv : Int} {rσ : pS} {G : Nat → pL → List pV → pS → Prop} (H : px_R l 1 220 rv rσ G) : ∀ (n : Nat) (a1 a3 a4 : Int) (σ : pS), f_M_doesPlain_84_p128 n a1 a3 a4 σ = some (rv, rσ) → G 128 [some (.inr 84), some (.inl a1), none, some (.inl a3), some (.inl a4), none] [] σ := by
  intro n
  induction n with
  | zero =>
    intro a1 a3 a4 σ h
    unfold f_M_doesPlain_84_p128 at h
    cases h
  | succ n ih =>
    intro a1 a3 a4 σ h
    unfold f_M_doesPlain_84_p128 at h
    refine H [((1, 4, 0, 0, []), 2), ((2, 0, 0, 0, []), 1), ((17, 84, 93, 0, []), 3), ((1, 1, 0, 0, []), 1), ((19, 93, 20, 0, []), 1), ((13, 3, 211, 0, []), 3), ((2, 0, 0, 0, []), 1), ((17, 84, 142, 0, []), 3), ((1, 1, 0, 0, []), 1), ((19, 142, 20, 0, []), 1), ((1, 4, 0, 0, []), 2), ((6, 0, 0, 0, []), 1), ((0, 0, 0, 63, []), 2), ((6, 3, 0, 0, []), 1), ((3, 5, 0, 0, []), 2), ((2, 0, 0, 0, []), 1), ((17, 84, 88, 0, []), 3), ((1, 1, 0, 0, []), 1), ((19, 88, 20, 0, []), 1), ((0, 0, 0, 3, []), 1), ((13, 1, 189, 0, []), 3), ((2, 0, 0, 0, []), 1), ((17, 84, 141, 0, []), 3), ((1, 5, 0, 0, []), 2), ((2, 0, 0, 0, []), 1), ((17, 84, 140, 0, []), 3), ((2, 0, 0, 0, []), 1), ((17, 84, 90, 0, []), 3), ((1, 1, 0, 0, []), 1), ((19, 90, 20, 0, []), 1), ((19, 140, 8, 0, []), 1), ((1, 4, 0, 0, []), 2), ((24, 185, 2, 1, []), 3), ((20, 141, 64, 0, []), 1), ((12, 0, 205, 0, []), 3), ((5, 4, 0, 1, []), 3), ((12, 0, 128, 0, []), 3), ((29, 5, 0, 0, []), 0)] 128 _ _ _ (by decide +kernel) ?_
    obtain ⟨g11, h⟩ := px_gd h
    refine And.intro g11 ?_
    rcases px_ite h with ⟨c12, h⟩ | ⟨c12, h⟩
    · refine And.intro (fun _ => ?_) (fun hn => absurd c12 hn)
      refine H [((2, 0, 0, 0, []), 1), ((17, 84, 88, 0, []), 3), ((1, 1, 0, 0, []), 1), ((19, 88, 20, 0, []), 1), ((0, 0, 0, 2, []), 1), ((13, 1, 233, 0, []), 3), ((2, 0, 0, 0, []), 1), ((17, 84, 140, 0, []), 3), ((2, 0, 0, 0, []), 1), ((17, 84, 90, 0, []), 3), ((1, 1, 0, 0, []), 1), ((19, 90, 20, 0, []), 1), ((1, 3, 0, 0, []), 1), ((20, 140, 8, 0, []), 1), ((28, 0, 0, 0, []), 1)] 211 _ _ _ (by decide +kernel) ?_
      obtain ⟨g13, h⟩ := px_gd h
      refine And.intro g13 ?_
      rcases px_ite h with ⟨c14, h⟩ | ⟨c14, h⟩
      · refine And.intro (fun hp => absurd c14 hp) (fun _ => ?_)
        obtain ⟨g15, h⟩ := px_gd h
        refine And.intro g15 ?_
        obtain ⟨g16, h⟩ := px_gd h
        refine And.intro g16 ?_
        exact (Prod.mk.inj (Option.some.inj h)).2
      · refine And.intro (fun _ => ?_) (fun hn => absurd c14 hn)
        refine H [((28, 0, 0, 0, []), 1)] 233 _ _ _ (by decide +kernel) ?_
        exact (Prod.mk.inj (Option.some.inj h)).2
    · refine And.intro (fun hp => absurd hp c12) (fun _ => ?_)
      obtain ⟨g17, h⟩ := px_gd h
      refine And.intro g17 ?_
      obtain ⟨g18, h⟩ := px_gd h
      refine And.intro g18 ?_
      rcases px_ite h with ⟨c19, h⟩ | ⟨c19, h⟩
      · refine And.intro (fun hp => absurd c19 hp) (fun _ => ?_)
        obtain ⟨g21, h⟩ := px_gd h
        refine And.intro g21 ?_
        obtain ⟨g22, h⟩ := px_gd h
        refine And.intro g22 ?_
        obtain ⟨⟨vq23, σq23⟩, hq23, h⟩ := px_bind h
        dsimp only at h
        refine Exists.intro 0 (Exists.intro vq23 (Exists.intro σq23 (And.intro (Nat.le_of_ble_eq_true rfl) (And.intro (ok_M_byteOf hq23) ?_))))
        obtain ⟨g24, h⟩ := px_gd h
        refine And.intro g24 ?_
        exact ih _ _ _ _ h
      · refine And.intro (fun _ => ?_) (fun hn => absurd c19 hn)
        refine H [((1, 3, 0, 0, []), 1), ((2, 0, 0, 0, []), 1), ((17, 84, 141, 0, []), 3), ((1, 5, 0, 0, []), 2), ((19, 141, 64, 0, []), 1), ((0, 0, 0, 8, []), 2), ((1, 4, 0, 0, []), 2), ((6, 2, 0, 0, []), 1), ((6, 6, 0, 0, []), 1), ((6, 4, 0, 0, []), 1), ((3, 3, 0, 0, []), 1), ((5, 4, 0, 1, []), 3), ((12, 0, 128, 0, []), 3), ((29, 5, 0, 0, []), 0)] 189 _ _ _ (by decide +kernel) ?_
        obtain ⟨g20, h⟩ := px_gd h
        refine And.intro g20 ?_
        exact ih _ _ _ _ h
theorem ok_M_doesPlain_84_p105 {l : Launch} {rv : Int} {rσ : pS} {G : Nat → pL → List pV → pS → Prop} (H : px_R l 1 220 rv rσ G) : ∀ (a1 s0 : Int) (σ : pS), f_M_doesPlain_84_p105 a1 s0 σ = some (rv, rσ) → G 105 [some (.inr 84), some (.inl a1), none, none, none, none] [.inl s0] σ := by
  intro a1 s0 σ h
  unfold f_M_doesPlain_84_p105 at h
  refine H [((3, 2, 0, 0, []), 1), ((2, 0, 0, 0, []), 1), ((17, 84, 142, 0, []), 3), ((1, 1, 0, 0, []), 1), ((1, 2, 0, 0, []), 1), ((2, 0, 0, 0, []), 1), ((17, 84, 95, 0, []), 3), ((1, 1, 0, 0, []), 1), ((19, 95, 20, 0, []), 1), ((6, 0, 0, 0, []), 1), ((0, 0, 0, 63, []), 2), ((6, 3, 0, 0, []), 1), ((20, 142, 20, 0, []), 1), ((0, 0, 0, 0, []), 1), ((3, 3, 0, 0, []), 1), ((0, 0, 0, 0, []), 1), ((3, 4, 0, 0, []), 2), ((29, 2, 0, 0, []), 0)] 105 _ _ _ (by decide +kernel) ?_
  obtain ⟨g9, h⟩ := px_gd h
  refine And.intro g9 ?_
  obtain ⟨g10, h⟩ := px_gd h
  refine And.intro g10 ?_
  exact ok_M_doesPlain_84_p128 H _ _ _ _ _ h
theorem ok_M_doesPlain_84_w {l : Launch} {rv : Int} {rσ : pS} {G : Nat → pL → List pV → pS → Prop} (H : px_R l 1 220 rv rσ G) : ∀ (a1 : Int) (σ : pS), f_M_doesPlain_84 a1 σ = some (rv, rσ) → G 0 [some (.inr 84), some (.inl a1), none, none, none, none] [] σ := by
  intro a1 σ h
  unfold f_M_doesPlain_84 at h
  refine H [((2, 0, 0, 0, []), 1), ((17, 84, 88, 0, []), 3), ((1, 1, 0, 0, []), 1), ((19, 88, 20, 0, []), 1), ((14, 1, 27, 0, []), 3), ((2, 0, 0, 0, []), 1), ((17, 84, 140, 0, []), 3), ((2, 0, 0, 0, []), 1), ((17, 84, 90, 0, []), 3), ((1, 1, 0, 0, []), 1), ((19, 90, 20, 0, []), 1), ((2, 0, 0, 0, []), 1), ((17, 84, 95, 0, []), 3), ((1, 1, 0, 0, []), 1), ((19, 95, 20, 0, []), 1), ((20, 140, 8, 0, []), 1), ((28, 0, 0, 0, []), 1)] 0 _ _ _ (by decide +kernel) ?_
  obtain ⟨g1, h⟩ := px_gd h
  refine And.intro g1 ?_
  rcases px_ite h with ⟨c2, h⟩ | ⟨c2, h⟩
  · refine And.intro (fun hp => absurd c2 hp) (fun _ => ?_)
    obtain ⟨g33, h⟩ := px_gd h
    refine And.intro g33 ?_
    obtain ⟨g34, h⟩ := px_gd h
    refine And.intro g34 ?_
    obtain ⟨g35, h⟩ := px_gd h
    refine And.intro g35 ?_
    exact (Prod.mk.inj (Option.some.inj h)).2
  · refine And.intro (fun _ => ?_) (fun hn => absurd c2 hn)
    refine H [((2, 0, 0, 0, []), 1), ((17, 84, 88, 0, []), 3), ((1, 1, 0, 0, []), 1), ((19, 88, 20, 0, []), 1), ((0, 0, 0, 1, []), 1), ((13, 1, 80, 0, []), 3), ((2, 0, 0, 0, []), 1), ((17, 84, 140, 0, []), 3), ((2, 0, 0, 0, []), 1), ((17, 84, 90, 0, []), 3), ((1, 1, 0, 0, []), 1), ((19, 90, 20, 0, []), 1), ((2, 0, 0, 0, []), 1), ((17, 84, 89, 0, []), 3), ((1, 1, 0, 0, []), 1), ((19, 89, 20, 0, []), 1), ((2, 0, 0, 0, []), 1), ((17, 84, 140, 0, []), 3), ((2, 0, 0, 0, []), 1), ((17, 84, 91, 0, []), 3), ((1, 1, 0, 0, []), 1), ((19, 91, 20, 0, []), 1), ((19, 140, 8, 0, []), 1), ((2, 0, 0, 0, []), 1), ((17, 84, 140, 0, []), 3), ((2, 0, 0, 0, []), 1), ((17, 84, 92, 0, []), 3), ((1, 1, 0, 0, []), 1), ((19, 92, 20, 0, []), 1), ((19, 140, 8, 0, []), 1), ((24, 181, 3, 1, []), 3), ((20, 140, 8, 0, []), 1), ((28, 0, 0, 0, []), 1)] 27 _ _ _ (by decide +kernel) ?_
    obtain ⟨g3, h⟩ := px_gd h
    refine And.intro g3 ?_
    rcases px_ite h with ⟨c4, h⟩ | ⟨c4, h⟩
    · refine And.intro (fun hp => absurd c4 hp) (fun _ => ?_)
      obtain ⟨g25, h⟩ := px_gd h
      refine And.intro g25 ?_
      obtain ⟨g26, h⟩ := px_gd h
      refine And.intro g26 ?_
      obtain ⟨g27, h⟩ := px_gd h
      refine And.intro g27 ?_
      obtain ⟨g28, h⟩ := px_gd h
      refine And.intro g28 ?_
      obtain ⟨g29, h⟩ := px_gd h
      refine And.intro g29 ?_
      obtain ⟨g30, h⟩ := px_gd h
      refine And.intro g30 ?_
      obtain ⟨⟨vq31, σq31⟩, hq31, h⟩ := px_bind h
      dsimp only at h
      refine Exists.intro 0 (Exists.intro vq31 (Exists.intro σq31 (And.intro (Nat.le_of_ble_eq_true rfl) (And.intro (ok_M_reckoned hq31) ?_))))
      obtain ⟨g32, h⟩ := px_gd h
      refine And.intro g32 ?_
      exact (Prod.mk.inj (Option.some.inj h)).2
    · refine And.intro (fun _ => ?_) (fun hn => absurd c4 hn)
      refine H [((2, 0, 0, 0, []), 1), ((17, 84, 94, 0, []), 3), ((1, 1, 0, 0, []), 1), ((19, 94, 20, 0, []), 1), ((0, 0, 0, (-1), []), 1), ((13, 1, 94, 0, []), 3), ((0, 0, 0, 0, []), 1), ((12, 0, 105, 0, []), 3)] 80 _ _ _ (by decide +kernel) ?_
      obtain ⟨g5, h⟩ := px_gd h
      refine And.intro g5 ?_
      rcases px_ite h with ⟨c6, h⟩ | ⟨c6, h⟩
      · refine And.intro (fun hp => absurd c6 hp) (fun _ => ?_)
        exact ok_M_doesPlain_84_p105 H _ _ _ h
      · refine And.intro (fun _ => ?_) (fun hn => absurd c6 hn)
        refine H [((2, 0, 0, 0, []), 1), ((17, 84, 140, 0, []), 3), ((2, 0, 0, 0, []), 1), ((17, 84, 94, 0, []), 3), ((1, 1, 0, 0, []), 1), ((19, 94, 20, 0, []), 1), ((19, 140, 8, 0, []), 1)] 94 _ _ _ (by decide +kernel) ?_
        obtain ⟨g7, h⟩ := px_gd h
        refine And.intro g7 ?_
        obtain ⟨g8, h⟩ := px_gd h
        refine And.intro g8 ?_
        exact ok_M_doesPlain_84_p105 H _ _ _ h
theorem ok_M_doesPlain_84 {l : Launch} {a1 : Int} {σ : pS} {v : Int} {σ1 : pS} (h : f_M_doesPlain_84 a1 σ = some (v, σ1)) : Con l 1 220 [.inr 84, .inl a1] σ v σ1 := Con_mk 2 6 rfl (by decide +kernel) (fun _ H => ok_M_doesPlain_84_w H _ _ h)
