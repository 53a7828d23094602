theorem ok_Plain_go_65_4_24_p10 {l : Launch} {rv : Int} {rσ : pS} {G : Nat → pL → List pV → pS → Prop} (H : px_R l 3 111 rv rσ G) : ∀ (n : Nat) (a3 : Int) (σ : pS), f_Plain_go_65_4_24_p10 n a3 σ = some (rv, rσ) → G 10 [some (.inr 65), some (.inr 4), none, some (.inl a3), none, none] [] σ := by
  intro n
  induction n with
  | zero =>
    intro a3 σ h
    unfold f_Plain_go_65_4_24_p10 at h
    cases h
  | succ n ih =>
    intro a3 σ h
    unfold f_Plain_go_65_4_24_p10 at h
    refine H [((1, 3, 0, 0, []), 1), ((2, 1, 0, 0, []), 1), ((16, 4, 11, 0, []), 3), ((13, 3, 159, 0, []), 3), ((2, 0, 0, 0, []), 1), ((2, 1, 0, 0, []), 1), ((17, 4, 9, 0, []), 3), ((1, 3, 0, 0, []), 1), ((19, 9, 20, 0, []), 1), ((23, 112, 1, 1, [(0, 65)]), 3), ((3, 4, 0, 0, []), 2), ((2, 0, 0, 0, []), 1), ((2, 1, 0, 0, []), 1), ((17, 4, 10, 0, []), 3), ((1, 3, 0, 0, []), 1), ((19, 10, 20, 0, []), 1), ((23, 112, 1, 1, [(0, 65)]), 3), ((3, 5, 0, 0, []), 2), ((2, 0, 0, 0, []), 1), ((17, 65, 70, 0, []), 3), ((1, 3, 0, 0, []), 1), ((2, 1, 0, 0, []), 1), ((1, 3, 0, 0, []), 1), ((1, 5, 0, 0, []), 2), ((23, 67, 2, 1, [(0, 4)]), 3), ((20, 70, 20, 0, []), 1), ((2, 1, 0, 0, []), 1), ((17, 4, 5, 0, []), 3), ((1, 3, 0, 0, []), 1), ((19, 5, 20, 0, []), 1), ((0, 0, 0, 3, []), 1), ((13, 1, 89, 0, []), 3), ((2, 0, 0, 0, []), 1), ((17, 65, 66, 0, []), 3), ((2, 0, 0, 0, []), 1), ((17, 65, 70, 0, []), 3), ((1, 3, 0, 0, []), 1), ((19, 70, 20, 0, []), 1), ((2, 1, 0, 0, []), 1), ((17, 4, 7, 0, []), 3), ((1, 3, 0, 0, []), 1), ((19, 7, 20, 0, []), 1), ((1, 4, 0, 0, []), 2), ((23, 95, 3, 0, [(0, 66)]), 3), ((12, 0, 153, 0, []), 3), ((5, 3, 0, 1, []), 3), ((12, 0, 10, 0, []), 3), ((29, 4, 0, 0, []), 0), ((29, 5, 0, 0, []), 0)] 10 _ _ _ (by decide +kernel) ?_
    rcases px_ite h with ⟨c2, h⟩ | ⟨c2, h⟩
    · refine And.intro (fun _ => ?_) (fun hn => absurd c2 hn)
      refine H [((28, 0, 0, 0, []), 1)] 159 _ _ _ (by decide +kernel) ?_
      exact (Prod.mk.inj (Option.some.inj h)).2
    · refine And.intro (fun hp => absurd hp c2) (fun _ => ?_)
      obtain ⟨g3, h⟩ := px_gd h
      refine And.intro g3 ?_
      obtain ⟨⟨vq4, σq4⟩, hq4, h⟩ := px_bind h
      dsimp only at h
      refine Exists.intro 1 (Exists.intro vq4 (Exists.intro σq4 (And.intro (Nat.le_of_ble_eq_true rfl) (And.intro (ok_Plain_valueIn_65 hq4) ?_))))
      obtain ⟨g5, h⟩ := px_gd h
      refine And.intro g5 ?_
      obtain ⟨⟨vq6, σq6⟩, hq6, h⟩ := px_bind h
      dsimp only at h
      refine Exists.intro 1 (Exists.intro vq6 (Exists.intro σq6 (And.intro (Nat.le_of_ble_eq_true rfl) (And.intro (ok_Plain_valueIn_65 hq6) ?_))))
      obtain ⟨⟨vq7, σq7⟩, hq7, h⟩ := px_bind h
      dsimp only at h
      refine Exists.intro 0 (Exists.intro vq7 (Exists.intro σq7 (And.intro (Nat.le_of_ble_eq_true rfl) (And.intro (ok_Prog_placeBy_4 hq7) ?_))))
      obtain ⟨g8, h⟩ := px_gd h
      refine And.intro g8 ?_
      obtain ⟨g9, h⟩ := px_gd h
      refine And.intro g9 ?_
      rcases px_ite h with ⟨c10, h⟩ | ⟨c10, h⟩
      · refine And.intro (fun hp => absurd c10 hp) (fun _ => ?_)
        obtain ⟨g23, h⟩ := px_gd h
        refine And.intro g23 ?_
        obtain ⟨g24, h⟩ := px_gd h
        refine And.intro g24 ?_
        obtain ⟨⟨vq25, σq25⟩, hq25, h⟩ := px_bind h
        dsimp only at h
        refine Exists.intro 0 (Exists.intro vq25 (Exists.intro σq25 (And.intro (Nat.le_of_ble_eq_true rfl) (And.intro (ok_State_putBytes_66 hq25) ?_))))
        exact ih _ _ h
      · refine And.intro (fun _ => ?_) (fun hn => absurd c10 hn)
        refine H [((2, 1, 0, 0, []), 1), ((17, 4, 8, 0, []), 3), ((1, 3, 0, 0, []), 1), ((19, 8, 20, 0, []), 1), ((24, 52, 1, 1, []), 3), ((14, 0, 153, 0, []), 3), ((2, 0, 0, 0, []), 1), ((17, 65, 66, 0, []), 3), ((17, 66, 67, 0, []), 3), ((2, 1, 0, 0, []), 1), ((17, 4, 8, 0, []), 3), ((1, 3, 0, 0, []), 1), ((19, 8, 20, 0, []), 1), ((2, 1, 0, 0, []), 1), ((17, 4, 5, 0, []), 3), ((1, 3, 0, 0, []), 1), ((19, 5, 20, 0, []), 1), ((0, 0, 0, 2, []), 1), ((13, 1, 143, 0, []), 3), ((2, 0, 0, 0, []), 1), ((2, 0, 0, 0, []), 1), ((17, 65, 70, 0, []), 3), ((1, 3, 0, 0, []), 1), ((19, 70, 20, 0, []), 1), ((2, 1, 0, 0, []), 1), ((17, 4, 7, 0, []), 3), ((1, 3, 0, 0, []), 1), ((19, 7, 20, 0, []), 1), ((23, 113, 2, 1, [(0, 65)]), 3), ((12, 0, 152, 0, []), 3), ((20, 67, 8, 0, []), 1), ((5, 3, 0, 1, []), 3), ((12, 0, 10, 0, []), 3), ((29, 4, 0, 0, []), 0), ((29, 5, 0, 0, []), 0)] 89 _ _ _ (by decide +kernel) ?_
        obtain ⟨g11, h⟩ := px_gd h
        refine And.intro g11 ?_
        obtain ⟨⟨vq12, σq12⟩, hq12, h⟩ := px_bind h
        dsimp only at h
        refine Exists.intro 0 (Exists.intro vq12 (Exists.intro σq12 (And.intro (Nat.le_of_ble_eq_true rfl) (And.intro (ok_X_isCell hq12) ?_))))
        rcases px_ite h with ⟨c13, h⟩ | ⟨c13, h⟩
        · refine And.intro (fun _ => ?_) (fun hn => absurd c13 hn)
          refine H [((5, 3, 0, 1, []), 3), ((12, 0, 10, 0, []), 3), ((29, 4, 0, 0, []), 0), ((29, 5, 0, 0, []), 0)] 153 _ _ _ (by decide +kernel) ?_
          exact ih _ _ h
        · refine And.intro (fun hp => absurd hp c13) (fun _ => ?_)
          obtain ⟨g14, h⟩ := px_gd h
          refine And.intro g14 ?_
          obtain ⟨g15, h⟩ := px_gd h
          refine And.intro g15 ?_
          rcases px_ite h with ⟨c16, h⟩ | ⟨c16, h⟩
          · refine And.intro (fun hp => absurd c16 hp) (fun _ => ?_)
            obtain ⟨g19, h⟩ := px_gd h
            refine And.intro g19 ?_
            obtain ⟨g20, h⟩ := px_gd h
            refine And.intro g20 ?_
            obtain ⟨⟨vq21, σq21⟩, hq21, h⟩ := px_bind h
            dsimp only at h
            refine Exists.intro 0 (Exists.intro vq21 (Exists.intro σq21 (And.intro (Nat.le_of_ble_eq_true rfl) (And.intro (ok_Plain_loaded_65 hq21) ?_))))
            obtain ⟨g22, h⟩ := px_gd h
            refine And.intro g22 ?_
            exact ih _ _ h
          · refine And.intro (fun _ => ?_) (fun hn => absurd c16 hn)
            refine H [((2, 1, 0, 0, []), 1), ((1, 3, 0, 0, []), 1), ((1, 4, 0, 0, []), 2), ((1, 5, 0, 0, []), 2), ((23, 80, 3, 1, [(0, 4)]), 3), ((20, 67, 8, 0, []), 1), ((5, 3, 0, 1, []), 3), ((12, 0, 10, 0, []), 3), ((29, 4, 0, 0, []), 0), ((29, 5, 0, 0, []), 0)] 143 _ _ _ (by decide +kernel) ?_
            obtain ⟨⟨vq17, σq17⟩, hq17, h⟩ := px_bind h
            dsimp only at h
            refine Exists.intro 0 (Exists.intro vq17 (Exists.intro σq17 (And.intro (Nat.le_of_ble_eq_true rfl) (And.intro (ok_Prog_reckoned_4 hq17) ?_))))
            obtain ⟨g18, h⟩ := px_gd h
            refine And.intro g18 ?_
            exact ih _ _ h
theorem ok_Plain_go_65_4_24_w {l : Launch} {rv : Int} {rσ : pS} {G : Nat → pL → List pV → pS → Prop} (H : px_R l 3 111 rv rσ G) : ∀ (σ : pS), f_Plain_go_65_4_24  σ = some (rv, rσ) → G 0 [some (.inr 65), some (.inr 4), some (.inr 24), none, none, none] [] σ := by
  intro  σ h
  unfold f_Plain_go_65_4_24 at h
  refine H [((2, 0, 0, 0, []), 1), ((17, 65, 66, 0, []), 3), ((2, 2, 0, 0, []), 1), ((23, 61, 1, 0, [(0, 66)]), 3), ((0, 0, 0, 0, []), 1), ((3, 3, 0, 0, []), 1), ((29, 2, 0, 0, []), 0)] 0 _ _ _ (by decide +kernel) ?_
  obtain ⟨⟨vq1, σq1⟩, hq1, h⟩ := px_bind h
  dsimp only at h
  refine Exists.intro 2 (Exists.intro vq1 (Exists.intro σq1 (And.intro (Nat.le_of_ble_eq_true rfl) (And.intro (ok_State_copyFrom_66_24 hq1) ?_))))
  exact ok_Plain_go_65_4_24_p10 H _ _ _ h
theorem ok_Plain_go_65_4_24 {l : Launch} {σ : pS} {v : Int} {σ1 : pS} (h : f_Plain_go_65_4_24  σ = some (v, σ1)) : Con l 3 111 [.inr 65, .inr 4, .inr 24] σ v σ1 := Con_mk 3 6 rfl (by decide +kernel) (fun _ H => ok_Plain_go_65_4_24_w H  _ h)
theorem ok_X_plain_0_p17 {l : Launch} {rv : Int} {rσ : pS} {G : Nat → pL → List pV → pS → Prop} (H : px_R l 4 110 rv rσ G) : ∀ (a1 : Int) (σ : pS), f_X_plain_0_p17 a1 σ = some (rv, rσ) → G 17 [some (.inr 0), some (.inl a1)] [] σ := by
  intro a1 σ h
  unfold f_X_plain_0_p17 at h
  refine H [((2, 0, 0, 0, []), 1), ((17, 0, 65, 0, []), 3), ((2, 0, 0, 0, []), 1), ((17, 0, 3, 0, []), 3), ((17, 3, 4, 0, []), 3), ((2, 0, 0, 0, []), 1), ((17, 0, 3, 0, []), 3), ((17, 3, 24, 0, []), 3), ((23, 111, 2, 0, [(0, 65)]), 3), ((1, 1, 0, 0, []), 1), ((24, 52, 1, 1, []), 3), ((14, 0, 60, 0, []), 3), ((2, 0, 0, 0, []), 1), ((17, 0, 65, 0, []), 3), ((17, 65, 66, 0, []), 3), ((17, 66, 67, 0, []), 3), ((1, 1, 0, 0, []), 1), ((19, 67, 8, 0, []), 1), ((12, 0, 75, 0, []), 3), ((27, 0, 0, 0, []), 1)] 17 _ _ _ (by decide +kernel) ?_
  obtain ⟨⟨vq3, σq3⟩, hq3, h⟩ := px_bind h
  dsimp only at h
  refine Exists.intro 3 (Exists.intro vq3 (Exists.intro σq3 (And.intro (Nat.le_of_ble_eq_true rfl) (And.intro (ok_Plain_go_65_4_24 hq3) ?_))))
  obtain ⟨⟨vq4, σq4⟩, hq4, h⟩ := px_bind h
  dsimp only at h
  refine Exists.intro 0 (Exists.intro vq4 (Exists.intro σq4 (And.intro (Nat.le_of_ble_eq_true rfl) (And.intro (ok_X_isCell hq4) ?_))))
  rcases px_ite h with ⟨c5, h⟩ | ⟨c5, h⟩
  · refine And.intro (fun _ => ?_) (fun hn => absurd c5 hn)
    refine H [((2, 0, 0, 0, []), 1), ((17, 0, 65, 0, []), 3), ((17, 65, 66, 0, []), 3), ((17, 66, 68, 0, []), 3), ((1, 1, 0, 0, []), 1), ((0, 0, 0, 100, []), 2), ((6, 1, 0, 0, []), 1), ((19, 68, 64, 0, []), 1), ((27, 0, 0, 0, []), 1)] 60 _ _ _ (by decide +kernel) ?_
    obtain ⟨g6, h⟩ := px_gd h
    refine And.intro g6 ?_
    exact Prod.mk.inj (Option.some.inj h)
  · refine And.intro (fun hp => absurd hp c5) (fun _ => ?_)
    obtain ⟨g7, h⟩ := px_gd h
    refine And.intro g7 ?_
    exact Prod.mk.inj (Option.some.inj h)
theorem ok_X_plain_0_w {l : Launch} {rv : Int} {rσ : pS} {G : Nat → pL → List pV → pS → Prop} (H : px_R l 4 110 rv rσ G) : ∀ (a1 : Int) (σ : pS), f_X_plain_0 a1 σ = some (rv, rσ) → G 0 [some (.inr 0), some (.inl a1)] [] σ := by
  intro a1 σ h
  unfold f_X_plain_0 at h
  refine H [((1, 1, 0, 0, []), 1), ((24, 52, 1, 1, []), 3), ((14, 1, 17, 0, []), 3), ((1, 1, 0, 0, []), 1), ((24, 101, 1, 1, []), 3), ((14, 1, 17, 0, []), 3), ((0, 0, 0, (-100000), []), 2), ((27, 0, 0, 0, []), 1)] 0 _ _ _ (by decide +kernel) ?_
  obtain ⟨⟨vq1, σq1⟩, hq1, h⟩ := px_bind h
  dsimp only at h
  refine Exists.intro 0 (Exists.intro vq1 (Exists.intro σq1 (And.intro (Nat.le_of_ble_eq_true rfl) (And.intro (ok_X_isCell hq1) ?_))))
  rcases px_ite h with ⟨c2, h⟩ | ⟨c2, h⟩
  · refine And.intro (fun hp => absurd c2 hp) (fun _ => ?_)
    obtain ⟨⟨vq8, σq8⟩, hq8, h⟩ := px_bind h
    dsimp only at h
    refine Exists.intro 0 (Exists.intro vq8 (Exists.intro σq8 (And.intro (Nat.le_of_ble_eq_true rfl) (And.intro (ok_X_isByte hq8) ?_))))
    rcases px_ite h with ⟨c9, h⟩ | ⟨c9, h⟩
    · refine And.intro (fun hp => absurd c9 hp) (fun _ => ?_)
      exact Prod.mk.inj (Option.some.inj h)
    · refine And.intro (fun _ => ?_) (fun hn => absurd c9 hn)
      exact ok_X_plain_0_p17 H _ _ h
  · refine And.intro (fun _ => ?_) (fun hn => absurd c2 hn)
    exact ok_X_plain_0_p17 H _ _ h
theorem ok_X_plain_0 {l : Launch} {a1 : Int} {σ : pS} {v : Int} {σ1 : pS} (h : f_X_plain_0 a1 σ = some (v, σ1)) : Con l 4 110 [.inr 0, .inl a1] σ v σ1 := Con_mk 2 2 rfl (by decide +kernel) (fun _ H => ok_X_plain_0_w H _ _ h)
theorem ok_M_doesPlain_84_p128 {l : Launch} {rv : Int} {rσ : pS} {G : Nat → pL → List pV → pS → Prop} (H : px_R l 1 220 rv rσ G) : ∀ (n : Nat) (a1 a3 a4 : Int) (σ : pS), f_M_doesPlain_84_p128 n a1 a3 a4 σ = some (rv, rσ) → G 128 [some (.inr 84), some (.inl a1), none, some (.inl a3), some (.inl a4), none] [] σ := by
  intro n
  induction n with
  | zero =>
    intro a1 a3 a4 σ h
    unfold f_M_doesPlain_84_p128 at h
    cases h
  | succ n ih =>
    intro a1 a3 a4 σ h
    unfold f_M_doesPlain_84_p128 at h
    refine H [((1, 4, 0, 0, []), 2), ((2, 0, 0, 0, []), 1), ((17, 84, 93, 0, []), 3), ((1, 1, 0, 0, []), 1), ((19, 93, 20, 0, []), 1), ((13, 3, 211, 0, []), 3), ((2, 0, 0, 0, []), 1), ((17, 84, 142, 0, []), 3), ((1, 1, 0, 0, []), 1), ((19, 142, 20, 0, []), 1), ((1, 4, 0, 0, []), 2), ((6, 0, 0, 0, []), 1), ((0, 0, 0, 63, []), 2), ((6, 3, 0, 0, []), 1), ((3, 5, 0, 0, []), 2), ((2, 0, 0, 0, []), 1), ((17, 84, 88, 0, []), 3), ((1, 1, 0, 0, []), 1), ((19, 88, 20, 0, []), 1), ((0, 0, 0, 3, []), 1), ((13, 1, 189, 0, []), 3), ((2, 0, 0, 0, []), 1), ((17, 84, 141, 0, []), 3), ((1, 5, 0, 0, []), 2), ((2, 0, 0, 0, []), 1), ((17, 84, 140, 0, []), 3), ((2, 0, 0, 0, []), 1), ((17, 84, 90, 0, []), 3), ((1, 1, 0, 0, []), 1), ((19, 90, 20, 0, []), 1), ((19, 140, 8, 0, []), 1), ((1, 4, 0, 0, []), 2), ((24, 185, 2, 1, []), 3), ((20, 141, 64, 0, []), 1), ((12, 0, 205, 0, []), 3), ((5, 4, 0, 1, []), 3), ((12, 0, 128, 0, []), 3), ((29, 5, 0, 0, []), 0)] 128 _ _ _ (by decide +kernel) ?_
    obtain ⟨g11, h⟩ := px_gd h
    refine And.intro g11 ?_
    rcases px_ite h with ⟨c12, h⟩ | ⟨c12, h⟩
    · refine And.intro (fun _ => ?_) (fun hn => absurd c12 hn)
      refine H [((2, 0, 0, 0, []), 1), ((17, 84, 88, 0, []), 3), ((1, 1, 0, 0, []), 1), ((19, 88, 20, 0, []), 1), ((0, 0, 0, 2, []), 1), ((13, 1, 233, 0, []), 3), ((2, 0, 0, 0, []), 1), ((17, 84, 140, 0, []), 3), ((2, 0, 0, 0, []), 1), ((17, 84, 90, 0, []), 3), ((1, 1, 0, 0, []), 1), ((19, 90, 20, 0, []), 1), ((1, 3, 0, 0, []), 1), ((20, 140, 8, 0, []), 1), ((28, 0, 0, 0, []), 1)] 211 _ _ _ (by decide +kernel) ?_
      obtain ⟨g13, h⟩ := px_gd h
      refine And.intro g13 ?_
      rcases px_ite h with ⟨c14, h⟩ | ⟨c14, h⟩
      · refine And.intro (fun hp => absurd c14 hp) (fun _ => ?_)
        obtain ⟨g15, h⟩ := px_gd h
        refine And.intro g15 ?_
        obtain ⟨g16, h⟩ := px_gd h
        refine And.intro g16 ?_
        exact (Prod.mk.inj (Option.some.inj h)).2
      · refine And.intro (fun _ => ?_) (fun hn => absurd c14 hn)
        refine H [((28, 0, 0, 0, []), 1)] 233 _ _ _ (by decide +kernel) ?_
        exact (Prod.mk.inj (Option.some.inj h)).2
    · refine And.intro (fun hp => absurd hp c12) (fun _ => ?_)
      obtain ⟨g17, h⟩ := px_gd h
      refine And.intro g17 ?_
      obtain ⟨g18, h⟩ := px_gd h
      refine And.intro g18 ?_
      rcases px_ite h with ⟨c19, h⟩ | ⟨c19, h⟩
      · refine And.intro (fun hp => absurd c19 hp) (fun _ => ?_)
        obtain ⟨g21, h⟩ := px_gd h
        refine And.intro g21 ?_
        obtain ⟨g22, h⟩ := px_gd h
        refine And.intro g22 ?_
        obtain ⟨⟨vq23, σq23⟩, hq23, h⟩ := px_bind h
        dsimp only at h
        refine Exists.intro 0 (Exists.intro vq23 (Exists.intro σq23 (And.intro (Nat.le_of_ble_eq_true rfl) (And.intro (ok_M_byteOf hq23) ?_))))
        obtain ⟨g24, h⟩ := px_gd h
        refine And.intro g24 ?_
        exact ih _ _ _ _ h
      · refine And.intro (fun _ => ?_) (fun hn => absurd c19 hn)
        refine H [((1, 3, 0, 0, []), 1), ((2, 0, 0, 0, []), 1), ((17, 84, 141, 0, []), 3), ((1, 5, 0, 0, []), 2), ((19, 141, 64, 0, []), 1), ((0, 0, 0, 8, []), 2), ((1, 4, 0, 0, []), 2), ((6, 2, 0, 0, []), 1), ((6, 6, 0, 0, []), 1), ((6, 4, 0, 0, []), 1), ((3, 3, 0, 0, []), 1), ((5, 4, 0, 1, []), 3), ((12, 0, 128, 0, []), 3), ((29, 5, 0, 0, []), 0)] 189 _ _ _ (by decide +kernel) ?_
        obtain ⟨g20, h⟩ := px_gd h
        refine And.intro g20 ?_
        exact ih _ _ _ _ h
theorem ok_M_doesPlain_84_p105 {l : Launch} {rv : Int} {rσ : pS} {G : Nat → pL → List pV → pS → Prop} (H : px_R l 1 220 rv rσ G) : ∀ (a1 s0 : Int) (σ : pS), f_M_doesPlain_84_p105 a1 s0 σ = some (rv, rσ) → G 105 [some (.inr 84), some (.inl a1), none, none, none, none] [.inl s0] σ := by
  intro a1 s0 σ h
  unfold f_M_doesPlain_84_p105 at h
  refine H [((3, 2, 0, 0, []), 1), ((2, 0, 0, 0, []), 1), ((17, 84, 142, 0, []), 3), ((1, 1, 0, 0, []), 1), ((1, 2, 0, 0, []), 1), ((2, 0, 0, 0, []), 1), ((17, 84, 95, 0, []), 3), ((1, 1, 0, 0, []), 1), ((19, 95, 20, 0, []), 1), ((6, 0, 0, 0, []), 1), ((0, 0, 0, 63, []), 2), ((6, 3, 0, 0, []), 1), ((20, 142, 20, 0, []), 1), ((0, 0, 0, 0, []), 1), ((3, 3, 0, 0, []), 1), ((0, 0, 0, 0, []), 1), ((3, 4, 0, 0, []), 2), ((29, 2, 0, 0, []), 0)] 105 _ _ _ (by decide +kernel) ?_
  obtain ⟨g9, h⟩ := px_gd h
  refine And.intro g9 ?_
  obtain ⟨g10, h⟩ := px_gd h
  refine And.intro g10 ?_
  exact ok_M_doesPlain_84_p128 H _ _ _ _ _ h
theorem ok_M_doesPlain_84_w {l : Launch} {rv : Int} {rσ : pS} {G : Nat → pL → List pV → pS → Prop} (H : px_R l 1 220 rv rσ G) : ∀ (a1 : Int) (σ : pS), f_M_doesPlain_84 a1 σ = some (rv, rσ) → G 0 [some (.inr 84), some (.inl a1), none, none, none, none] [] σ := by
  intro a1 σ h
  unfold f_M_doesPlain_84 at h
  refine H [((2, 0, 0, 0, []), 1), ((17, 84, 88, 0, []), 3), ((1, 1, 0, 0, []), 1), ((19, 88, 20, 0, []), 1), ((14, 1, 27, 0, []), 3), ((2, 0, 0, 0, []), 1), ((17, 84, 140, 0, []), 3), ((2, 0, 0, 0, []), 1), ((17, 84, 90, 0, []), 3), ((1, 1, 0, 0, []), 1), ((19, 90, 20, 0, []), 1), ((2, 0, 0, 0, []), 1), ((17, 84, 95, 0, []), 3), ((1, 1, 0, 0, []), 1), ((19, 95, 20, 0, []), 1), ((20, 140, 8, 0, []), 1), ((28, 0, 0, 0, []), 1)] 0 _ _ _ (by decide +kernel) ?_
  obtain ⟨g1, h⟩ := px_gd h
  refine And.intro g1 ?_
  rcases px_ite h with ⟨c2, h⟩ | ⟨c2, h⟩
  · refine And.intro (fun hp => absurd c2 hp) (fun _ => ?_)
    obtain ⟨g33, h⟩ := px_gd h
    refine And.intro g33 ?_
    obtain ⟨g34, h⟩ := px_gd h
    refine And.intro g34 ?_
    obtain ⟨g35, h⟩ := px_gd h
    refine And.intro g35 ?_
    exact (Prod.mk.inj (Option.some.inj h)).2
  · refine And.intro (fun _ => ?_) (fun hn => absurd c2 hn)
    refine H [((2, 0, 0, 0, []), 1), ((17, 84, 88, 0, []), 3), ((1, 1, 0, 0, []), 1), ((19, 88, 20, 0, []), 1), ((0, 0, 0, 1, []), 1), ((13, 1, 80, 0, []), 3), ((2, 0, 0, 0, []), 1), ((17, 84, 140, 0, []), 3), ((2, 0, 0, 0, []), 1), ((17, 84, 90, 0, []), 3), ((1, 1, 0, 0, []), 1), ((19, 90, 20, 0, []), 1), ((2, 0, 0, 0, []), 1), ((17, 84, 89, 0, []), 3), ((1, 1, 0, 0, []), 1), ((19, 89, 20, 0, []), 1), ((2, 0, 0, 0, []), 1), ((17, 84, 140, 0, []), 3), ((2, 0, 0, 0, []), 1), ((17, 84, 91, 0, []), 3), ((1, 1, 0, 0, []), 1), ((19, 91, 20, 0, []), 1), ((19, 140, 8, 0, []), 1), ((2, 0, 0, 0, []), 1), ((17, 84, 140, 0, []), 3), ((2, 0, 0, 0, []), 1), ((17, 84, 92, 0, []), 3), ((1, 1, 0, 0, []), 1), ((19, 92, 20, 0, []), 1), ((19, 140, 8, 0, []), 1), ((24, 181, 3, 1, []), 3), ((20, 140, 8, 0, []), 1), ((28, 0, 0, 0, []), 1)] 27 _ _ _ (by decide +kernel) ?_
    obtain ⟨g3, h⟩ := px_gd h
    refine And.intro g3 ?_
    rcases px_ite h with ⟨c4, h⟩ | ⟨c4, h⟩
    · refine And.intro (fun hp => absurd c4 hp) (fun _ => ?_)
      obtain ⟨g25, h⟩ := px_gd h
      refine And.intro g25 ?_
      obtain ⟨g26, h⟩ := px_gd h
      refine And.intro g26 ?_
      obtain ⟨g27, h⟩ := px_gd h
      refine And.intro g27 ?_
      obtain ⟨g28, h⟩ := px_gd h
      refine And.intro g28 ?_
      obtain ⟨g29, h⟩ := px_gd h
      refine And.intro g29 ?_
      obtain ⟨g30, h⟩ := px_gd h
      refine And.intro g30 ?_
      obtain ⟨⟨vq31, σq31⟩, hq31, h⟩ := px_bind h
      dsimp only at h
      refine Exists.intro 0 (Exists.intro vq31 (Exists.intro σq31 (And.intro (Nat.le_of_ble_eq_true rfl) (And.intro (ok_M_reckoned hq31) ?_))))
      obtain ⟨g32, h⟩ := px_gd h
      refine And.intro g32 ?_
      exact (Prod.mk.inj (Option.some.inj h)).2
    · refine And.intro (fun _ => ?_) (fun hn => absurd c4 hn)
      refine H [((2, 0, 0, 0, []), 1), ((17, 84, 94, 0, []), 3), ((1, 1, 0, 0, []), 1), ((19, 94, 20, 0, []), 1), ((0, 0, 0, (-1), []), 1), ((13, 1, 94, 0, []), 3), ((0, 0, 0, 0, []), 1), ((12, 0, 105, 0, []), 3)] 80 _ _ _ (by decide +kernel) ?_
      obtain ⟨g5, h⟩ := px_gd h
      refine And.intro g5 ?_
      rcases px_ite h with ⟨c6, h⟩ | ⟨c6, h⟩
      · refine And.intro (fun hp => absurd c6 hp) (fun _ => ?_)
        exact ok_M_doesPlain_84_p105 H _ _ _ h
      · refine And.intro (fun _ => ?_) (fun hn => absurd c6 hn)
        refine H [((2, 0, 0, 0, []), 1), ((17, 84, 140, 0, []), 3), ((2, 0, 0, 0, []), 1), ((17, 84, 94, 0, []), 3), ((1, 1, 0, 0, []), 1), ((19, 94, 20, 0, []), 1), ((19, 140, 8, 0, []), 1)] 94 _ _ _ (by decide +kernel) ?_
        obtain ⟨g7, h⟩ := px_gd h
        refine And.intro g7 ?_
        obtain ⟨g8, h⟩ := px_gd h
        refine And.intro g8 ?_
        exact ok_M_doesPlain_84_p105 H _ _ _ h
theorem ok_M_doesPlain_84 {l : Launch} {a1 : Int} {σ : pS} {v : Int} {σ1 : pS} (h : f_M_doesPlain_84 a1 σ = some (v, σ1)) : Con l 1 220 [.inr 84, .inl a1] σ v σ1 := Con_mk 2 6 rfl (by decide +kernel) (fun _ H => ok_M_doesPlain_84_w H _ _ h)
theorem ok_M_goesPlain_84_p54 {l : Launch} {rv : Int} {rσ : pS} {G : Nat → pL → List pV → pS → Prop} (H : px_R l 2 219 rv rσ G) : ∀ (n : Nat) (a1 : Int) (σ : pS), f_M_goesPlain_84_p54 n a1 σ = some (rv, rσ) → G 54 [some (.inr 84), some (.inl a1)] [] σ := by
  intro n
  induction n with
  | zero =>
    intro a1 σ h
    unfold f_M_goesPlain_84_p54 at h
    cases h
  | succ n ih =>
    intro a1 σ h
    unfold f_M_goesPlain_84_p54 at h
    refine H [((1, 1, 0, 0, []), 1), ((2, 0, 0, 0, []), 1), ((16, 84, 2, 0, []), 3), ((13, 3, 73, 0, []), 3), ((2, 0, 0, 0, []), 1), ((1, 1, 0, 0, []), 1), ((23, 220, 1, 0, [(0, 84)]), 3), ((5, 1, 0, 1, []), 3), ((12, 0, 54, 0, []), 3)] 54 _ _ _ (by decide +kernel) ?_
    rcases px_ite h with ⟨c3, h⟩ | ⟨c3, h⟩
    · refine And.intro (fun _ => ?_) (fun hn => absurd c3 hn)
      refine H [((28, 0, 0, 0, []), 1)] 73 _ _ _ (by decide +kernel) ?_
      exact (Prod.mk.inj (Option.some.inj h)).2
    · refine And.intro (fun hp => absurd hp c3) (fun _ => ?_)
      obtain ⟨⟨vq4, σq4⟩, hq4, h⟩ := px_bind h
      dsimp only at h
      refine Exists.intro 1 (Exists.intro vq4 (Exists.intro σq4 (And.intro (Nat.le_of_ble_eq_true rfl) (And.intro (ok_M_doesPlain_84 hq4) ?_))))
      exact ih _ _ h
theorem ok_M_goesPlain_84_p28 {l : Launch} {rv : Int} {rσ : pS} {G : Nat → pL → List pV → pS → Prop} (H : px_R l 2 219 rv rσ G) : ∀ (n : Nat) (a1 : Int) (σ : pS), f_M_goesPlain_84_p28 n a1 σ = some (rv, rσ) → G 28 [some (.inr 84), some (.inl a1)] [] σ := by
  intro n
  induction n with
  | zero =>
    intro a1 σ h
    unfold f_M_goesPlain_84_p28 at h
    cases h
  | succ n ih =>
    intro a1 σ h
    unfold f_M_goesPlain_84_p28 at h
    refine H [((1, 1, 0, 0, []), 1), ((0, 0, 0, 64, []), 2), ((13, 3, 52, 0, []), 3), ((2, 0, 0, 0, []), 1), ((17, 84, 141, 0, []), 3), ((1, 1, 0, 0, []), 1), ((2, 0, 0, 0, []), 1), ((17, 84, 86, 0, []), 3), ((1, 1, 0, 0, []), 1), ((19, 86, 64, 0, []), 1), ((20, 141, 64, 0, []), 1), ((5, 1, 0, 1, []), 3), ((12, 0, 28, 0, []), 3)] 28 _ _ _ (by decide +kernel) ?_
    rcases px_ite h with ⟨c2, h⟩ | ⟨c2, h⟩
    · refine And.intro (fun _ => ?_) (fun hn => absurd c2 hn)
      refine H [((0, 0, 0, 0, []), 1), ((3, 1, 0, 0, []), 1)] 52 _ _ _ (by decide +kernel) ?_
      exact ok_M_goesPlain_84_p54 H _ _ _ h
    · refine And.intro (fun hp => absurd hp c2) (fun _ => ?_)
      obtain ⟨g5, h⟩ := px_gd h
      refine And.intro g5 ?_
      obtain ⟨g6, h⟩ := px_gd h
      refine And.intro g6 ?_
      exact ih _ _ h
theorem ok_M_goesPlain_84_p2 {l : Launch} {rv : Int} {rσ : pS} {G : Nat → pL → List pV → pS → Prop} (H : px_R l 2 219 rv rσ G) : ∀ (n : Nat) (a1 : Int) (σ : pS), f_M_goesPlain_84_p2 n a1 σ = some (rv, rσ) → G 2 [some (.inr 84), some (.inl a1)] [] σ := by
  intro n
  induction n with
  | zero =>
    intro a1 σ h
    unfold f_M_goesPlain_84_p2 at h
    cases h
  | succ n ih =>
    intro a1 σ h
    unfold f_M_goesPlain_84_p2 at h
    refine H [((1, 1, 0, 0, []), 1), ((0, 0, 0, 8, []), 2), ((13, 3, 26, 0, []), 3), ((2, 0, 0, 0, []), 1), ((17, 84, 140, 0, []), 3), ((1, 1, 0, 0, []), 1), ((2, 0, 0, 0, []), 1), ((17, 84, 85, 0, []), 3), ((1, 1, 0, 0, []), 1), ((19, 85, 8, 0, []), 1), ((20, 140, 8, 0, []), 1), ((5, 1, 0, 1, []), 3), ((12, 0, 2, 0, []), 3)] 2 _ _ _ (by decide +kernel) ?_
    rcases px_ite h with ⟨c1, h⟩ | ⟨c1, h⟩
    · refine And.intro (fun _ => ?_) (fun hn => absurd c1 hn)
      refine H [((0, 0, 0, 0, []), 1), ((3, 1, 0, 0, []), 1)] 26 _ _ _ (by decide +kernel) ?_
      exact ok_M_goesPlain_84_p28 H _ _ _ h
    · refine And.intro (fun hp => absurd hp c1) (fun _ => ?_)
      obtain ⟨g7, h⟩ := px_gd h
      refine And.intro g7 ?_
      obtain ⟨g8, h⟩ := px_gd h
      refine And.intro g8 ?_
      exact ih _ _ h
theorem ok_M_goesPlain_84_w {l : Launch} {rv : Int} {rσ : pS} {G : Nat → pL → List pV → pS → Prop} (H : px_R l 2 219 rv rσ G) : ∀ (σ : pS), f_M_goesPlain_84  σ = some (rv, rσ) → G 0 [some (.inr 84), none] [] σ := by
  intro  σ h
  unfold f_M_goesPlain_84 at h
  refine H [((0, 0, 0, 0, []), 1), ((3, 1, 0, 0, []), 1)] 0 _ _ _ (by decide +kernel) ?_
  exact ok_M_goesPlain_84_p2 H _ _ _ h
theorem ok_M_goesPlain_84 {l : Launch} {σ : pS} {v : Int} {σ1 : pS} (h : f_M_goesPlain_84  σ = some (v, σ1)) : Con l 2 219 [.inr 84] σ v σ1 := Con_mk 1 2 rfl (by decide +kernel) (fun _ H => ok_M_goesPlain_84_w H  _ h)
theorem ok_M_plain_84_w {l : Launch} {rv : Int} {rσ : pS} {G : Nat → pL → List pV → pS → Prop} (H : px_R l 3 218 rv rσ G) : ∀ (a1 : Int) (σ : pS), f_M_plain_84 a1 σ = some (rv, rσ) → G 0 [some (.inr 84), some (.inl a1)] [] σ := by
  intro a1 σ h
  unfold f_M_plain_84 at h
  refine H [((2, 0, 0, 0, []), 1), ((23, 219, 0, 0, [(0, 84)]), 3), ((1, 1, 0, 0, []), 1), ((0, 0, 0, 0, []), 1), ((0, 0, 0, 7, []), 2), ((24, 137, 3, 1, []), 3), ((14, 0, 23, 0, []), 3), ((2, 0, 0, 0, []), 1), ((17, 84, 140, 0, []), 3), ((1, 1, 0, 0, []), 1), ((19, 140, 8, 0, []), 1), ((12, 0, 50, 0, []), 3), ((27, 0, 0, 0, []), 1)] 0 _ _ _ (by decide +kernel) ?_
  obtain ⟨⟨vq1, σq1⟩, hq1, h⟩ := px_bind h
  dsimp only at h
  refine Exists.intro 2 (Exists.intro vq1 (Exists.intro σq1 (And.intro (Nat.le_of_ble_eq_true rfl) (And.intro (ok_M_goesPlain_84 hq1) ?_))))
  obtain ⟨⟨vq2, σq2⟩, hq2, h⟩ := px_bind h
  dsimp only at h
  refine Exists.intro 0 (Exists.intro vq2 (Exists.intro σq2 (And.intro (Nat.le_of_ble_eq_true rfl) (And.intro (ok_M_in hq2) ?_))))
  rcases px_ite h with ⟨c3, h⟩ | ⟨c3, h⟩
  · refine And.intro (fun _ => ?_) (fun hn => absurd c3 hn)
    refine H [((1, 1, 0, 0, []), 1), ((0, 0, 0, 100, []), 2), ((0, 0, 0, 163, []), 3), ((24, 137, 3, 1, []), 3), ((14, 0, 47, 0, []), 3), ((2, 0, 0, 0, []), 1), ((17, 84, 141, 0, []), 3), ((1, 1, 0, 0, []), 1), ((0, 0, 0, 100, []), 2), ((6, 1, 0, 0, []), 1), ((19, 141, 64, 0, []), 1), ((12, 0, 50, 0, []), 3), ((27, 0, 0, 0, []), 1)] 23 _ _ _ (by decide +kernel) ?_
    obtain ⟨⟨vq4, σq4⟩, hq4, h⟩ := px_bind h
    dsimp only at h
    refine Exists.intro 0 (Exists.intro vq4 (Exists.intro σq4 (And.intro (Nat.le_of_ble_eq_true rfl) (And.intro (ok_M_in hq4) ?_))))
    rcases px_ite h with ⟨c5, h⟩ | ⟨c5, h⟩
    · refine And.intro (fun _ => ?_) (fun hn => absurd c5 hn)
      refine H [((0, 0, 0, (-100000), []), 3), ((27, 0, 0, 0, []), 1)] 47 _ _ _ (by decide +kernel) ?_
      exact Prod.mk.inj (Option.some.inj h)
    · refine And.intro (fun hp => absurd hp c5) (fun _ => ?_)
      obtain ⟨g6, h⟩ := px_gd h
      refine And.intro g6 ?_
      exact Prod.mk.inj (Option.some.inj h)
  · refine And.intro (fun hp => absurd hp c3) (fun _ => ?_)
    obtain ⟨g7, h⟩ := px_gd h
    refine And.intro g7 ?_
    exact Prod.mk.inj (Option.some.inj h)
theorem ok_M_plain_84 {l : Launch} {a1 : Int} {σ : pS} {v : Int} {σ1 : pS} (h : f_M_plain_84 a1 σ = some (v, σ1)) : Con l 3 218 [.inr 84, .inl a1] σ v σ1 := Con_mk 2 2 rfl (by decide +kernel) (fun _ H => ok_M_plain_84_w H _ _ h)
theorem ok_X_differing_29_67_p4 {l : Launch} {rv : Int} {rσ : pS} {G : Nat → pL → List pV → pS → Prop} (H : px_R l 0 115 rv rσ G) : ∀ (n : Nat) (a2 a3 : Int) (σ : pS), f_X_differing_29_67_p4 n a2 a3 σ = some (rv, rσ) → G 4 [some (.inr 29), some (.inr 67), some (.inl a2), some (.inl a3)] [] σ := by
  intro n
  induction n with
  | zero =>
    intro a2 a3 σ h
    unfold f_X_differing_29_67_p4 at h
    cases h
  | succ n ih =>
    intro a2 a3 σ h
    unfold f_X_differing_29_67_p4 at h
    refine H [((1, 3, 0, 0, []), 1), ((2, 0, 0, 0, []), 1), ((21, 29, 8, 0, []), 1), ((13, 3, 34, 0, []), 3), ((1, 3, 0, 0, []), 1), ((2, 1, 0, 0, []), 1), ((21, 67, 8, 0, []), 1), ((13, 3, 34, 0, []), 3), ((2, 0, 0, 0, []), 1), ((1, 3, 0, 0, []), 1), ((19, 29, 8, 0, []), 1), ((2, 1, 0, 0, []), 1), ((1, 3, 0, 0, []), 1), ((19, 67, 8, 0, []), 1), ((13, 0, 28, 0, []), 3), ((5, 2, 0, 1, []), 3), ((5, 3, 0, 1, []), 3), ((12, 0, 4, 0, []), 3)] 4 _ _ _ (by decide +kernel) ?_
    rcases px_ite h with ⟨c1, h⟩ | ⟨c1, h⟩
    · refine And.intro (fun _ => ?_) (fun hn => absurd c1 hn)
      refine H [((1, 2, 0, 0, []), 1), ((27, 0, 0, 0, []), 1)] 34 _ _ _ (by decide +kernel) ?_
      exact Prod.mk.inj (Option.some.inj h)
    · refine And.intro (fun hp => absurd hp c1) (fun _ => ?_)
      rcases px_ite h with ⟨c2, h⟩ | ⟨c2, h⟩
      · refine And.intro (fun _ => ?_) (fun hn => absurd c2 hn)
        refine H [((1, 2, 0, 0, []), 1), ((27, 0, 0, 0, []), 1)] 34 _ _ _ (by decide +kernel) ?_
        exact Prod.mk.inj (Option.some.inj h)
      · refine And.intro (fun hp => absurd hp c2) (fun _ => ?_)
        obtain ⟨g3, h⟩ := px_gd h
        refine And.intro g3 ?_
        obtain ⟨g4, h⟩ := px_gd h
        refine And.intro g4 ?_
        rcases px_ite h with ⟨c5, h⟩ | ⟨c5, h⟩
        · refine And.intro (fun _ => ?_) (fun hn => absurd c5 hn)
          refine H [((5, 3, 0, 1, []), 3), ((12, 0, 4, 0, []), 3)] 28 _ _ _ (by decide +kernel) ?_
          exact ih _ _ _ h
        · refine And.intro (fun hp => absurd hp c5) (fun _ => ?_)
          exact ih _ _ _ h
theorem ok_X_differing_29_67_w {l : Launch} {rv : Int} {rσ : pS} {G : Nat → pL → List pV → pS → Prop} (H : px_R l 0 115 rv rσ G) : ∀ (σ : pS), f_X_differing_29_67  σ = some (rv, rσ) → G 0 [some (.inr 29), some (.inr 67), none, none] [] σ := by
  intro  σ h
  unfold f_X_differing_29_67 at h
  refine H [((0, 0, 0, 0, []), 1), ((3, 2, 0, 0, []), 1), ((0, 0, 0, 0, []), 1), ((3, 3, 0, 0, []), 1)] 0 _ _ _ (by decide +kernel) ?_
  exact ok_X_differing_29_67_p4 H _ _ _ _ h
theorem ok_X_differing_29_67 {l : Launch} {σ : pS} {v : Int} {σ1 : pS} (h : f_X_differing_29_67  σ = some (v, σ1)) : Con l 0 115 [.inr 29, .inr 67] σ v σ1 := Con_mk 2 4 rfl (by decide +kernel) (fun _ H => ok_X_differing_29_67_w H  _ h)
theorem ok_X_differing_30_68_p4 {l : Launch} {rv : Int} {rσ : pS} {G : Nat → pL → List pV → pS → Prop} (H : px_R l 0 115 rv rσ G) : ∀ (n : Nat) (a2 a3 : Int) (σ : pS), f_X_differing_30_68_p4 n a2 a3 σ = some (rv, rσ) → G 4 [some (.inr 30), some (.inr 68), some (.inl a2), some (.inl a3)] [] σ := by
  intro n
  induction n with
  | zero =>
    intro a2 a3 σ h
    unfold f_X_differing_30_68_p4 at h
    cases h
  | succ n ih =>
    intro a2 a3 σ h
    unfold f_X_differing_30_68_p4 at h
    refine H [((1, 3, 0, 0, []), 1), ((2, 0, 0, 0, []), 1), ((21, 30, 64, 0, []), 1), ((13, 3, 34, 0, []), 3), ((1, 3, 0, 0, []), 1), ((2, 1, 0, 0, []), 1), ((21, 68, 64, 0, []), 1), ((13, 3, 34, 0, []), 3), ((2, 0, 0, 0, []), 1), ((1, 3, 0, 0, []), 1), ((19, 30, 64, 0, []), 1), ((2, 1, 0, 0, []), 1), ((1, 3, 0, 0, []), 1), ((19, 68, 64, 0, []), 1), ((13, 0, 28, 0, []), 3), ((5, 2, 0, 1, []), 3), ((5, 3, 0, 1, []), 3), ((12, 0, 4, 0, []), 3)] 4 _ _ _ (by decide +kernel) ?_
    rcases px_ite h with ⟨c1, h⟩ | ⟨c1, h⟩
    · refine And.intro (fun _ => ?_) (fun hn => absurd c1 hn)
      refine H [((1, 2, 0, 0, []), 1), ((27, 0, 0, 0, []), 1)] 34 _ _ _ (by decide +kernel) ?_
      exact Prod.mk.inj (Option.some.inj h)
    · refine And.intro (fun hp => absurd hp c1) (fun _ => ?_)
      rcases px_ite h with ⟨c2, h⟩ | ⟨c2, h⟩
      · refine And.intro (fun _ => ?_) (fun hn => absurd c2 hn)
        refine H [((1, 2, 0, 0, []), 1), ((27, 0, 0, 0, []), 1)] 34 _ _ _ (by decide +kernel) ?_
        exact Prod.mk.inj (Option.some.inj h)
      · refine And.intro (fun hp => absurd hp c2) (fun _ => ?_)
        obtain ⟨g3, h⟩ := px_gd h
        refine And.intro g3 ?_
        obtain ⟨g4, h⟩ := px_gd h
        refine And.intro g4 ?_
        rcases px_ite h with ⟨c5, h⟩ | ⟨c5, h⟩
        · refine And.intro (fun _ => ?_) (fun hn => absurd c5 hn)
          refine H [((5, 3, 0, 1, []), 3), ((12, 0, 4, 0, []), 3)] 28 _ _ _ (by decide +kernel) ?_
          exact ih _ _ _ h
        · refine And.intro (fun hp => absurd hp c5) (fun _ => ?_)
          exact ih _ _ _ h
theorem ok_X_differing_30_68_w {l : Launch} {rv : Int} {rσ : pS} {G : Nat → pL → List pV → pS → Prop} (H : px_R l 0 115 rv rσ G) : ∀ (σ : pS), f_X_differing_30_68  σ = some (rv, rσ) → G 0 [some (.inr 30), some (.inr 68), none, none] [] σ := by
  intro  σ h
  unfold f_X_differing_30_68 at h
  refine H [((0, 0, 0, 0, []), 1), ((3, 2, 0, 0, []), 1), ((0, 0, 0, 0, []), 1), ((3, 3, 0, 0, []), 1)] 0 _ _ _ (by decide +kernel) ?_
  exact ok_X_differing_30_68_p4 H _ _ _ _ h
theorem ok_X_differing_30_68 {l : Launch} {σ : pS} {v : Int} {σ1 : pS} (h : f_X_differing_30_68  σ = some (v, σ1)) : Con l 0 115 [.inr 30, .inr 68] σ v σ1 := Con_mk 2 4 rfl (by decide +kernel) (fun _ H => ok_X_differing_30_68_w H  _ h)
theorem ok_X_unlike_0_w {l : Launch} {rv : Int} {rσ : pS} {G : Nat → pL → List pV → pS → Prop} (H : px_R l 6 114 rv rσ G) : ∀ (a1 : Int) (σ : pS), f_X_unlike_0 a1 σ = some (rv, rσ) → G 0 [some (.inr 0), some (.inl a1)] [] σ := by
  intro a1 σ h
  unfold f_X_unlike_0 at h
  refine H [((2, 0, 0, 0, []), 1), ((1, 1, 0, 0, []), 1), ((23, 58, 1, 1, [(0, 0)]), 3), ((14, 1, 10, 0, []), 3), ((0, 0, 0, (-1), []), 1), ((27, 0, 0, 0, []), 1)] 0 _ _ _ (by decide +kernel) ?_
  obtain ⟨⟨vq1, σq1⟩, hq1, h⟩ := px_bind h
  dsimp only at h
  refine Exists.intro 0 (Exists.intro vq1 (Exists.intro σq1 (And.intro (Nat.le_of_ble_eq_true rfl) (And.intro (ok_X_canRun_0 hq1) ?_))))
  rcases px_ite h with ⟨c2, h⟩ | ⟨c2, h⟩
  · refine And.intro (fun hp => absurd c2 hp) (fun _ => ?_)
    exact Prod.mk.inj (Option.some.inj h)
  · refine And.intro (fun _ => ?_) (fun hn => absurd c2 hn)
    refine H [((2, 0, 0, 0, []), 1), ((17, 0, 3, 0, []), 3), ((1, 1, 0, 0, []), 1), ((0, 0, 0, 0, []), 1), ((23, 59, 2, 1, [(0, 3)]), 3), ((0, 0, 0, (-5), []), 2), ((13, 1, 27, 0, []), 3), ((0, 0, 0, (-5), []), 2), ((27, 0, 0, 0, []), 1)] 10 _ _ _ (by decide +kernel) ?_
    obtain ⟨⟨vq3, σq3⟩, hq3, h⟩ := px_bind h
    dsimp only at h
    refine Exists.intro 5 (Exists.intro vq3 (Exists.intro σq3 (And.intro (Nat.le_of_ble_eq_true rfl) (And.intro (ok_Mach_go_3 hq3) ?_))))
    rcases px_ite h with ⟨c4, h⟩ | ⟨c4, h⟩
    · refine And.intro (fun hp => absurd c4 hp) (fun _ => ?_)
      exact Prod.mk.inj (Option.some.inj h)
    · refine And.intro (fun _ => ?_) (fun hn => absurd c4 hn)
      refine H [((2, 0, 0, 0, []), 1), ((17, 0, 65, 0, []), 3), ((2, 0, 0, 0, []), 1), ((17, 0, 3, 0, []), 3), ((17, 3, 4, 0, []), 3), ((2, 0, 0, 0, []), 1), ((17, 0, 3, 0, []), 3), ((17, 3, 24, 0, []), 3), ((23, 111, 2, 0, [(0, 65)]), 3), ((2, 0, 0, 0, []), 1), ((17, 0, 3, 0, []), 3), ((17, 3, 28, 0, []), 3), ((17, 28, 29, 0, []), 3), ((2, 0, 0, 0, []), 1), ((17, 0, 65, 0, []), 3), ((17, 65, 66, 0, []), 3), ((17, 66, 67, 0, []), 3), ((24, 115, 2, 1, []), 3), ((2, 0, 0, 0, []), 1), ((17, 0, 3, 0, []), 3), ((17, 3, 28, 0, []), 3), ((17, 28, 30, 0, []), 3), ((2, 0, 0, 0, []), 1), ((17, 0, 65, 0, []), 3), ((17, 65, 66, 0, []), 3), ((17, 66, 68, 0, []), 3), ((24, 115, 2, 1, []), 3), ((6, 0, 0, 0, []), 1), ((27, 0, 0, 0, []), 1)] 27 _ _ _ (by decide +kernel) ?_
      obtain ⟨⟨vq5, σq5⟩, hq5, h⟩ := px_bind h
      dsimp only at h
      refine Exists.intro 3 (Exists.intro vq5 (Exists.intro σq5 (And.intro (Nat.le_of_ble_eq_true rfl) (And.intro (ok_Plain_go_65_4_24 hq5) ?_))))
      obtain ⟨⟨vq6, σq6⟩, hq6, h⟩ := px_bind h
      dsimp only at h
      refine Exists.intro 0 (Exists.intro vq6 (Exists.intro σq6 (And.intro (Nat.le_of_ble_eq_true rfl) (And.intro (ok_X_differing_29_67 hq6) ?_))))
      obtain ⟨⟨vq7, σq7⟩, hq7, h⟩ := px_bind h
      dsimp only at h
      refine Exists.intro 0 (Exists.intro vq7 (Exists.intro σq7 (And.intro (Nat.le_of_ble_eq_true rfl) (And.intro (ok_X_differing_30_68 hq7) ?_))))
      exact Prod.mk.inj (Option.some.inj h)
theorem ok_X_unlike_0 {l : Launch} {a1 : Int} {σ : pS} {v : Int} {σ1 : pS} (h : f_X_unlike_0 a1 σ = some (v, σ1)) : Con l 6 114 [.inr 0, .inl a1] σ v σ1 := Con_mk 2 2 rfl (by decide +kernel) (fun _ H => ok_X_unlike_0_w H _ _ h)
theorem ok_M_unlike_84_p63 {l : Launch} {rv : Int} {rσ : pS} {G : Nat → pL → List pV → pS → Prop} (H : px_R l 10 221 rv rσ G) : ∀ (n : Nat) (a2 a3 : Int) (σ : pS), f_M_unlike_84_p63 n a2 a3 σ = some (rv, rσ) → G 63 [some (.inr 84), none, some (.inl a2), some (.inl a3)] [] σ := by
  intro n
  induction n with
  | zero =>
    intro a2 a3 σ h
    unfold f_M_unlike_84_p63 at h
    cases h
  | succ n ih =>
    intro a2 a3 σ h
    unfold f_M_unlike_84_p63 at h
    refine H [((1, 3, 0, 0, []), 1), ((0, 0, 0, 64, []), 2), ((13, 3, 94, 0, []), 3), ((2, 0, 0, 0, []), 1), ((17, 84, 128, 0, []), 3), ((1, 3, 0, 0, []), 1), ((19, 128, 64, 0, []), 1), ((2, 0, 0, 0, []), 1), ((17, 84, 141, 0, []), 3), ((1, 3, 0, 0, []), 1), ((19, 141, 64, 0, []), 1), ((13, 0, 88, 0, []), 3), ((1, 2, 0, 0, []), 1), ((0, 0, 0, 1, []), 1), ((6, 0, 0, 0, []), 1), ((3, 2, 0, 0, []), 1), ((5, 3, 0, 1, []), 3), ((12, 0, 63, 0, []), 3)] 63 _ _ _ (by decide +kernel) ?_
    rcases px_ite h with ⟨c7, h⟩ | ⟨c7, h⟩
    · refine And.intro (fun _ => ?_) (fun hn => absurd c7 hn)
      refine H [((1, 2, 0, 0, []), 1), ((27, 0, 0, 0, []), 1)] 94 _ _ _ (by decide +kernel) ?_
      exact Prod.mk.inj (Option.some.inj h)
    · refine And.intro (fun hp => absurd hp c7) (fun _ => ?_)
      obtain ⟨g8, h⟩ := px_gd h
      refine And.intro g8 ?_
      obtain ⟨g9, h⟩ := px_gd h
      refine And.intro g9 ?_
      rcases px_ite h with ⟨c10, h⟩ | ⟨c10, h⟩
      · refine And.intro (fun _ => ?_) (fun hn => absurd c10 hn)
        refine H [((5, 3, 0, 1, []), 3), ((12, 0, 63, 0, []), 3)] 88 _ _ _ (by decide +kernel) ?_
        exact ih _ _ _ h
      · refine And.intro (fun hp => absurd hp c10) (fun _ => ?_)
        exact ih _ _ _ h
theorem ok_M_unlike_84_p30 {l : Launch} {rv : Int} {rσ : pS} {G : Nat → pL → List pV → pS → Prop} (H : px_R l 10 221 rv rσ G) : ∀ (n : Nat) (a2 a3 : Int) (σ : pS), f_M_unlike_84_p30 n a2 a3 σ = some (rv, rσ) → G 30 [some (.inr 84), none, some (.inl a2), some (.inl a3)] [] σ := by
  intro n
  induction n with
  | zero =>
    intro a2 a3 σ h
    unfold f_M_unlike_84_p30 at h
    cases h
  | succ n ih =>
    intro a2 a3 σ h
    unfold f_M_unlike_84_p30 at h
    refine H [((1, 3, 0, 0, []), 1), ((0, 0, 0, 8, []), 2), ((13, 3, 61, 0, []), 3), ((2, 0, 0, 0, []), 1), ((17, 84, 130, 0, []), 3), ((1, 3, 0, 0, []), 1), ((19, 130, 8, 0, []), 1), ((2, 0, 0, 0, []), 1), ((17, 84, 140, 0, []), 3), ((1, 3, 0, 0, []), 1), ((19, 140, 8, 0, []), 1), ((13, 0, 55, 0, []), 3), ((1, 2, 0, 0, []), 1), ((0, 0, 0, 1, []), 1), ((6, 0, 0, 0, []), 1), ((3, 2, 0, 0, []), 1), ((5, 3, 0, 1, []), 3), ((12, 0, 30, 0, []), 3)] 30 _ _ _ (by decide +kernel) ?_
    rcases px_ite h with ⟨c6, h⟩ | ⟨c6, h⟩
    · refine And.intro (fun _ => ?_) (fun hn => absurd c6 hn)
      refine H [((0, 0, 0, 0, []), 1), ((3, 3, 0, 0, []), 1)] 61 _ _ _ (by decide +kernel) ?_
      exact ok_M_unlike_84_p63 H _ _ _ _ h
    · refine And.intro (fun hp => absurd hp c6) (fun _ => ?_)
      obtain ⟨g11, h⟩ := px_gd h
      refine And.intro g11 ?_
      obtain ⟨g12, h⟩ := px_gd h
      refine And.intro g12 ?_
      rcases px_ite h with ⟨c13, h⟩ | ⟨c13, h⟩
      · refine And.intro (fun _ => ?_) (fun hn => absurd c13 hn)
        refine H [((5, 3, 0, 1, []), 3), ((12, 0, 30, 0, []), 3)] 55 _ _ _ (by decide +kernel) ?_
        exact ih _ _ _ h
      · refine And.intro (fun hp => absurd hp c13) (fun _ => ?_)
        exact ih _ _ _ h
theorem ok_M_unlike_84_w {l : Launch} {rv : Int} {rσ : pS} {G : Nat → pL → List pV → pS → Prop} (H : px_R l 10 221 rv rσ G) : ∀ (a1 : Int) (σ : pS), f_M_unlike_84 a1 σ = some (rv, rσ) → G 0 [some (.inr 84), some (.inl a1), none, none] [] σ := by
  intro a1 σ h
  unfold f_M_unlike_84 at h
  refine H [((2, 0, 0, 0, []), 1), ((1, 1, 0, 0, []), 1), ((23, 176, 1, 1, [(0, 84)]), 3), ((14, 1, 10, 0, []), 3), ((0, 0, 0, (-1), []), 1), ((27, 0, 0, 0, []), 1)] 0 _ _ _ (by decide +kernel) ?_
  obtain ⟨⟨vq1, σq1⟩, hq1, h⟩ := px_bind h
  dsimp only at h
  refine Exists.intro 1 (Exists.intro vq1 (Exists.intro σq1 (And.intro (Nat.le_of_ble_eq_true rfl) (And.intro (ok_M_canRun_84 hq1) ?_))))
  rcases px_ite h with ⟨c2, h⟩ | ⟨c2, h⟩
  · refine And.intro (fun hp => absurd c2 hp) (fun _ => ?_)
    exact Prod.mk.inj (Option.some.inj h)
  · refine And.intro (fun _ => ?_) (fun hn => absurd c2 hn)
    refine H [((2, 0, 0, 0, []), 1), ((1, 1, 0, 0, []), 1), ((0, 0, 0, 0, []), 1), ((23, 213, 2, 1, [(0, 84)]), 3), ((14, 1, 22, 0, []), 3), ((0, 0, 0, (-5), []), 2), ((27, 0, 0, 0, []), 1)] 10 _ _ _ (by decide +kernel) ?_
    obtain ⟨⟨vq3, σq3⟩, hq3, h⟩ := px_bind h
    dsimp only at h
    refine Exists.intro 9 (Exists.intro vq3 (Exists.intro σq3 (And.intro (Nat.le_of_ble_eq_true rfl) (And.intro (ok_M_isTried_84 hq3) ?_))))
    rcases px_ite h with ⟨c4, h⟩ | ⟨c4, h⟩
    · refine And.intro (fun hp => absurd c4 hp) (fun _ => ?_)
      exact Prod.mk.inj (Option.some.inj h)
    · refine And.intro (fun _ => ?_) (fun hn => absurd c4 hn)
      refine H [((2, 0, 0, 0, []), 1), ((23, 219, 0, 0, [(0, 84)]), 3), ((0, 0, 0, 0, []), 1), ((3, 2, 0, 0, []), 1), ((0, 0, 0, 0, []), 1), ((3, 3, 0, 0, []), 1), ((29, 1, 0, 0, []), 0)] 22 _ _ _ (by decide +kernel) ?_
      obtain ⟨⟨vq5, σq5⟩, hq5, h⟩ := px_bind h
      dsimp only at h
      refine Exists.intro 2 (Exists.intro vq5 (Exists.intro σq5 (And.intro (Nat.le_of_ble_eq_true rfl) (And.intro (ok_M_goesPlain_84 hq5) ?_))))
      exact ok_M_unlike_84_p30 H _ _ _ _ h
theorem ok_M_unlike_84 {l : Launch} {a1 : Int} {σ : pS} {v : Int} {σ1 : pS} (h : f_M_unlike_84 a1 σ = some (v, σ1)) : Con l 10 221 [.inr 84, .inl a1] σ v σ1 := Con_mk 2 4 rfl (by decide +kernel) (fun _ H => ok_M_unlike_84_w H _ _ h)
theorem ok_X_fastest_0_p33 {l : Launch} {rv : Int} {rσ : pS} {G : Nat → pL → List pV → pS → Prop} (H : px_R l 6 116 rv rσ G) : ∀ (n : Nat) (a1 a2 a3 a4 : Int) (σ : pS), f_X_fastest_0_p33 n a1 a2 a3 a4 σ = some (rv, rσ) → G 33 [some (.inr 0), some (.inl a1), some (.inl a2), some (.inl a3), some (.inl a4), none] [] σ := by
  intro n
  induction n with
  | zero =>
    intro a1 a2 a3 a4 σ h
    unfold f_X_fastest_0_p33 at h
    cases h
  | succ n ih =>
    intro a1 a2 a3 a4 σ h
    unfold f_X_fastest_0_p33 at h
    refine H [((1, 4, 0, 0, []), 2), ((0, 0, 0, 4, []), 1), ((13, 4, 82, 0, []), 3), ((2, 0, 0, 0, []), 1), ((17, 0, 3, 0, []), 3), ((1, 4, 0, 0, []), 2), ((0, 0, 0, 0, []), 1), ((23, 59, 2, 1, [(0, 3)]), 3), ((3, 5, 0, 0, []), 2), ((1, 5, 0, 0, []), 2), ((0, 0, 0, (-5), []), 2), ((13, 0, 76, 0, []), 3), ((1, 2, 0, 0, []), 1), ((0, 0, 0, (-5), []), 2), ((13, 0, 70, 0, []), 3), ((1, 5, 0, 0, []), 2), ((1, 2, 0, 0, []), 1), ((13, 3, 76, 0, []), 3), ((1, 5, 0, 0, []), 2), ((3, 2, 0, 0, []), 1), ((1, 4, 0, 0, []), 2), ((3, 3, 0, 0, []), 1), ((5, 4, 0, 1, []), 3), ((12, 0, 33, 0, []), 3), ((29, 5, 0, 0, []), 0)] 33 _ _ _ (by decide +kernel) ?_
    rcases px_ite h with ⟨c4, h⟩ | ⟨c4, h⟩
    · refine And.intro (fun _ => ?_) (fun hn => absurd c4 hn)
      refine H [((1, 1, 0, 0, []), 1), ((14, 1, 90, 0, []), 3), ((1, 3, 0, 0, []), 1), ((12, 0, 91, 0, []), 3), ((27, 0, 0, 0, []), 1)] 82 _ _ _ (by decide +kernel) ?_
      rcases px_ite h with ⟨c5, h⟩ | ⟨c5, h⟩
      · refine And.intro (fun hp => absurd c5 hp) (fun _ => ?_)
        exact Prod.mk.inj (Option.some.inj h)
      · refine And.intro (fun _ => ?_) (fun hn => absurd c5 hn)
        refine H [((1, 2, 0, 0, []), 1), ((27, 0, 0, 0, []), 1)] 90 _ _ _ (by decide +kernel) ?_
        exact Prod.mk.inj (Option.some.inj h)
    · refine And.intro (fun hp => absurd hp c4) (fun _ => ?_)
      obtain ⟨⟨vq6, σq6⟩, hq6, h⟩ := px_bind h
      dsimp only at h
      refine Exists.intro 5 (Exists.intro vq6 (Exists.intro σq6 (And.intro (Nat.le_of_ble_eq_true rfl) (And.intro (ok_Mach_go_3 hq6) ?_))))
      rcases px_ite h with ⟨c7, h⟩ | ⟨c7, h⟩
      · refine And.intro (fun _ => ?_) (fun hn => absurd c7 hn)
        refine H [((5, 4, 0, 1, []), 3), ((12, 0, 33, 0, []), 3), ((29, 5, 0, 0, []), 0)] 76 _ _ _ (by decide +kernel) ?_
        exact ih _ _ _ _ _ h
      · refine And.intro (fun hp => absurd hp c7) (fun _ => ?_)
        rcases px_ite h with ⟨c8, h⟩ | ⟨c8, h⟩
        · refine And.intro (fun _ => ?_) (fun hn => absurd c8 hn)
          refine H [((1, 5, 0, 0, []), 2), ((3, 2, 0, 0, []), 1), ((1, 4, 0, 0, []), 2), ((3, 3, 0, 0, []), 1), ((5, 4, 0, 1, []), 3), ((12, 0, 33, 0, []), 3), ((29, 5, 0, 0, []), 0)] 70 _ _ _ (by decide +kernel) ?_
          exact ih _ _ _ _ _ h
        · refine And.intro (fun hp => absurd hp c8) (fun _ => ?_)
          rcases px_ite h with ⟨c9, h⟩ | ⟨c9, h⟩
          · refine And.intro (fun _ => ?_) (fun hn => absurd c9 hn)
            refine H [((5, 4, 0, 1, []), 3), ((12, 0, 33, 0, []), 3), ((29, 5, 0, 0, []), 0)] 76 _ _ _ (by decide +kernel) ?_
            exact ih _ _ _ _ _ h
          · refine And.intro (fun hp => absurd hp c9) (fun _ => ?_)
            exact ih _ _ _ _ _ h
theorem ok_X_fastest_0_w {l : Launch} {rv : Int} {rσ : pS} {G : Nat → pL → List pV → pS → Prop} (H : px_R l 6 116 rv rσ G) : ∀ (a1 : Int) (σ : pS), f_X_fastest_0 a1 σ = some (rv, rσ) → G 0 [some (.inr 0), some (.inl a1), none, none, none, none] [] σ := by
  intro a1 σ h
  unfold f_X_fastest_0 at h
  refine H [((1, 1, 0, 0, []), 1), ((14, 2, 22, 0, []), 3), ((1, 1, 0, 0, []), 1), ((0, 0, 0, 1, []), 1), ((13, 4, 22, 0, []), 3), ((2, 0, 0, 0, []), 1), ((17, 0, 3, 0, []), 3), ((17, 3, 4, 0, []), 3), ((16, 4, 11, 0, []), 3), ((14, 1, 24, 0, []), 3), ((0, 0, 0, (-1), []), 1), ((27, 0, 0, 0, []), 1)] 0 _ _ _ (by decide +kernel) ?_
  rcases px_ite h with ⟨c1, h⟩ | ⟨c1, h⟩
  · refine And.intro (fun _ => ?_) (fun hn => absurd c1 hn)
    refine H [((0, 0, 0, (-1), []), 1), ((27, 0, 0, 0, []), 1)] 22 _ _ _ (by decide +kernel) ?_
    exact Prod.mk.inj (Option.some.inj h)
  · refine And.intro (fun hp => absurd hp c1) (fun _ => ?_)
    rcases px_ite h with ⟨c2, h⟩ | ⟨c2, h⟩
    · refine And.intro (fun _ => ?_) (fun hn => absurd c2 hn)
      refine H [((0, 0, 0, (-1), []), 1), ((27, 0, 0, 0, []), 1)] 22 _ _ _ (by decide +kernel) ?_
      exact Prod.mk.inj (Option.some.inj h)
    · refine And.intro (fun hp => absurd hp c2) (fun _ => ?_)
      rcases px_ite h with ⟨c3, h⟩ | ⟨c3, h⟩
      · refine And.intro (fun hp => absurd c3 hp) (fun _ => ?_)
        exact Prod.mk.inj (Option.some.inj h)
      · refine And.intro (fun _ => ?_) (fun hn => absurd c3 hn)
        refine H [((0, 0, 0, (-5), []), 2), ((3, 2, 0, 0, []), 1), ((0, 0, 0, (-5), []), 2), ((3, 3, 0, 0, []), 1), ((0, 0, 0, 1, []), 1), ((3, 4, 0, 0, []), 2)] 24 _ _ _ (by decide +kernel) ?_
        exact ok_X_fastest_0_p33 H _ _ _ _ _ _ h
theorem ok_X_fastest_0 {l : Launch} {a1 : Int} {σ : pS} {v : Int} {σ1 : pS} (h : f_X_fastest_0 a1 σ = some (v, σ1)) : Con l 6 116 [.inr 0, .inl a1] σ v σ1 := Con_mk 2 6 rfl (by decide +kernel) (fun _ H => ok_X_fastest_0_w H _ _ h)
theorem ok_M_fastest_84_p27 {l : Launch} {rv : Int} {rσ : pS} {G : Nat → pL → List pV → pS → Prop} (H : px_R l 10 215 rv rσ G) : ∀ (n : Nat) (a1 a2 a3 a4 : Int) (σ : pS), f_M_fastest_84_p27 n a1 a2 a3 a4 σ = some (rv, rσ) → G 27 [some (.inr 84), some (.inl a1), some (.inl a2), some (.inl a3), some (.inl a4)] [] σ := by
  intro n
  induction n with
  | zero =>
    intro a1 a2 a3 a4 σ h
    unfold f_M_fastest_84_p27 at h
    cases h
  | succ n ih =>
    intro a1 a2 a3 a4 σ h
    unfold f_M_fastest_84_p27 at h
    refine H [((1, 4, 0, 0, []), 2), ((14, 5, 73, 0, []), 3), ((2, 0, 0, 0, []), 1), ((1, 4, 0, 0, []), 2), ((0, 0, 0, 0, []), 1), ((23, 213, 2, 1, [(0, 84)]), 3), ((14, 0, 67, 0, []), 3), ((1, 2, 0, 0, []), 1), ((0, 0, 0, (-5), []), 2), ((13, 0, 59, 0, []), 3), ((2, 0, 0, 0, []), 1), ((16, 84, 63, 0, []), 3), ((1, 3, 0, 0, []), 1), ((13, 5, 59, 0, []), 3), ((12, 0, 67, 0, []), 3), ((5, 4, 0, (-1), []), 3), ((12, 0, 27, 0, []), 3)] 27 _ _ _ (by decide +kernel) ?_
    rcases px_ite h with ⟨c4, h⟩ | ⟨c4, h⟩
    · refine And.intro (fun _ => ?_) (fun hn => absurd c4 hn)
      refine H [((1, 1, 0, 0, []), 1), ((14, 1, 81, 0, []), 3), ((1, 2, 0, 0, []), 1), ((12, 0, 82, 0, []), 3), ((27, 0, 0, 0, []), 1)] 73 _ _ _ (by decide +kernel) ?_
      rcases px_ite h with ⟨c5, h⟩ | ⟨c5, h⟩
      · refine And.intro (fun hp => absurd c5 hp) (fun _ => ?_)
        exact Prod.mk.inj (Option.some.inj h)
      · refine And.intro (fun _ => ?_) (fun hn => absurd c5 hn)
        refine H [((1, 3, 0, 0, []), 1), ((27, 0, 0, 0, []), 1)] 81 _ _ _ (by decide +kernel) ?_
        exact Prod.mk.inj (Option.some.inj h)
    · refine And.intro (fun hp => absurd hp c4) (fun _ => ?_)
      obtain ⟨⟨vq6, σq6⟩, hq6, h⟩ := px_bind h
      dsimp only at h
      refine Exists.intro 9 (Exists.intro vq6 (Exists.intro σq6 (And.intro (Nat.le_of_ble_eq_true rfl) (And.intro (ok_M_isTried_84 hq6) ?_))))
      rcases px_ite h with ⟨c7, h⟩ | ⟨c7, h⟩
      · refine And.intro (fun _ => ?_) (fun hn => absurd c7 hn)
        refine H [((5, 4, 0, (-1), []), 3), ((12, 0, 27, 0, []), 3)] 67 _ _ _ (by decide +kernel) ?_
        exact ih _ _ _ _ _ h
      · refine And.intro (fun hp => absurd hp c7) (fun _ => ?_)
        rcases px_ite h with ⟨c8, h⟩ | ⟨c8, h⟩
        · refine And.intro (fun _ => ?_) (fun hn => absurd c8 hn)
          refine H [((1, 4, 0, 0, []), 2), ((3, 2, 0, 0, []), 1), ((2, 0, 0, 0, []), 1), ((16, 84, 63, 0, []), 3), ((3, 3, 0, 0, []), 1), ((5, 4, 0, (-1), []), 3), ((12, 0, 27, 0, []), 3)] 59 _ _ _ (by decide +kernel) ?_
          exact ih _ _ _ _ _ h
        · refine And.intro (fun hp => absurd hp c8) (fun _ => ?_)
          rcases px_ite h with ⟨c9, h⟩ | ⟨c9, h⟩
          · refine And.intro (fun _ => ?_) (fun hn => absurd c9 hn)
            refine H [((1, 4, 0, 0, []), 2), ((3, 2, 0, 0, []), 1), ((2, 0, 0, 0, []), 1), ((16, 84, 63, 0, []), 3), ((3, 3, 0, 0, []), 1), ((5, 4, 0, (-1), []), 3), ((12, 0, 27, 0, []), 3)] 59 _ _ _ (by decide +kernel) ?_
            exact ih _ _ _ _ _ h
          · refine And.intro (fun hp => absurd hp c9) (fun _ => ?_)
            exact ih _ _ _ _ _ h
theorem ok_M_fastest_84_w {l : Launch} {rv : Int} {rσ : pS} {G : Nat → pL → List pV → pS → Prop} (H : px_R l 10 215 rv rσ G) : ∀ (a1 : Int) (σ : pS), f_M_fastest_84 a1 σ = some (rv, rσ) → G 0 [some (.inr 84), some (.inl a1), none, none, none] [] σ := by
  intro a1 σ h
  unfold f_M_fastest_84 at h
  refine H [((1, 1, 0, 0, []), 1), ((0, 0, 0, 0, []), 1), ((0, 0, 0, 1, []), 1), ((24, 137, 3, 1, []), 3), ((14, 0, 16, 0, []), 3), ((2, 0, 0, 0, []), 1), ((16, 84, 2, 0, []), 3), ((14, 1, 18, 0, []), 3), ((0, 0, 0, (-1), []), 1), ((27, 0, 0, 0, []), 1)] 0 _ _ _ (by decide +kernel) ?_
  obtain ⟨⟨vq1, σq1⟩, hq1, h⟩ := px_bind h
  dsimp only at h
  refine Exists.intro 0 (Exists.intro vq1 (Exists.intro σq1 (And.intro (Nat.le_of_ble_eq_true rfl) (And.intro (ok_M_in hq1) ?_))))
  rcases px_ite h with ⟨c2, h⟩ | ⟨c2, h⟩
  · refine And.intro (fun _ => ?_) (fun hn => absurd c2 hn)
    refine H [((0, 0, 0, (-1), []), 1), ((27, 0, 0, 0, []), 1)] 16 _ _ _ (by decide +kernel) ?_
    exact Prod.mk.inj (Option.some.inj h)
  · refine And.intro (fun hp => absurd hp c2) (fun _ => ?_)
    rcases px_ite h with ⟨c3, h⟩ | ⟨c3, h⟩
    · refine And.intro (fun hp => absurd c3 hp) (fun _ => ?_)
      exact Prod.mk.inj (Option.some.inj h)
    · refine And.intro (fun _ => ?_) (fun hn => absurd c3 hn)
      refine H [((0, 0, 0, (-5), []), 2), ((3, 2, 0, 0, []), 1), ((0, 0, 0, (-5), []), 2), ((3, 3, 0, 0, []), 1), ((0, 0, 0, 4, []), 1), ((3, 4, 0, 0, []), 2)] 18 _ _ _ (by decide +kernel) ?_
      exact ok_M_fastest_84_p27 H _ _ _ _ _ _ h
theorem ok_M_fastest_84 {l : Launch} {a1 : Int} {σ : pS} {v : Int} {σ1 : pS} (h : f_M_fastest_84 a1 σ = some (v, σ1)) : Con l 10 215 [.inr 84, .inl a1] σ v σ1 := Con_mk 2 5 rfl (by decide +kernel) (fun _ H => ok_M_fastest_84_w H _ _ h)
theorem ok_X_cautious_0_w {l : Launch} {rv : Int} {rσ : pS} {G : Nat → pL → List pV → pS → Prop} (H : px_R l 6 117 rv rσ G) : ∀ (a1 a2 : Int) (σ : pS), f_X_cautious_0 a1 a2 σ = some (rv, rσ) → G 0 [some (.inr 0), some (.inl a1), some (.inl a2)] [] σ := by
  intro a1 a2 σ h
  unfold f_X_cautious_0 at h
  refine H [((2, 0, 0, 0, []), 1), ((1, 1, 0, 0, []), 1), ((23, 58, 1, 1, [(0, 0)]), 3), ((14, 0, 15, 0, []), 3), ((1, 2, 0, 0, []), 1), ((24, 100, 1, 1, []), 3), ((14, 1, 17, 0, []), 3), ((0, 0, 0, (-1), []), 1), ((27, 0, 0, 0, []), 1)] 0 _ _ _ (by decide +kernel) ?_
  obtain ⟨⟨vq1, σq1⟩, hq1, h⟩ := px_bind h
  dsimp only at h
  refine Exists.intro 0 (Exists.intro vq1 (Exists.intro σq1 (And.intro (Nat.le_of_ble_eq_true rfl) (And.intro (ok_X_canRun_0 hq1) ?_))))
  rcases px_ite h with ⟨c2, h⟩ | ⟨c2, h⟩
  · refine And.intro (fun _ => ?_) (fun hn => absurd c2 hn)
    refine H [((0, 0, 0, (-1), []), 1), ((27, 0, 0, 0, []), 1)] 15 _ _ _ (by decide +kernel) ?_
    exact Prod.mk.inj (Option.some.inj h)
  · refine And.intro (fun hp => absurd hp c2) (fun _ => ?_)
    obtain ⟨⟨vq3, σq3⟩, hq3, h⟩ := px_bind h
    dsimp only at h
    refine Exists.intro 0 (Exists.intro vq3 (Exists.intro σq3 (And.intro (Nat.le_of_ble_eq_true rfl) (And.intro (ok_X_isTotal hq3) ?_))))
    rcases px_ite h with ⟨c4, h⟩ | ⟨c4, h⟩
    · refine And.intro (fun hp => absurd c4 hp) (fun _ => ?_)
      exact Prod.mk.inj (Option.some.inj h)
    · refine And.intro (fun _ => ?_) (fun hn => absurd c4 hn)
      refine H [((2, 0, 0, 0, []), 1), ((17, 0, 3, 0, []), 3), ((1, 1, 0, 0, []), 1), ((0, 0, 0, 1, []), 1), ((23, 59, 2, 1, [(0, 3)]), 3), ((0, 0, 0, (-5), []), 2), ((13, 1, 36, 0, []), 3), ((0, 0, 0, (-5), []), 2), ((12, 0, 48, 0, []), 3), ((27, 0, 0, 0, []), 1)] 17 _ _ _ (by decide +kernel) ?_
      obtain ⟨⟨vq5, σq5⟩, hq5, h⟩ := px_bind h
      dsimp only at h
      refine Exists.intro 5 (Exists.intro vq5 (Exists.intro σq5 (And.intro (Nat.le_of_ble_eq_true rfl) (And.intro (ok_Mach_go_3 hq5) ?_))))
      rcases px_ite h with ⟨c6, h⟩ | ⟨c6, h⟩
      · refine And.intro (fun hp => absurd c6 hp) (fun _ => ?_)
        exact Prod.mk.inj (Option.some.inj h)
      · refine And.intro (fun _ => ?_) (fun hn => absurd c6 hn)
        refine H [((2, 0, 0, 0, []), 1), ((17, 0, 3, 0, []), 3), ((17, 3, 32, 0, []), 3), ((17, 32, 33, 0, []), 3), ((1, 2, 0, 0, []), 1), ((19, 33, 6, 0, []), 1), ((27, 0, 0, 0, []), 1)] 36 _ _ _ (by decide +kernel) ?_
        obtain ⟨g7, h⟩ := px_gd h
        refine And.intro g7 ?_
        exact Prod.mk.inj (Option.some.inj h)
theorem ok_X_cautious_0 {l : Launch} {a1 a2 : Int} {σ : pS} {v : Int} {σ1 : pS} (h : f_X_cautious_0 a1 a2 σ = some (v, σ1)) : Con l 6 117 [.inr 0, .inl a1, .inl a2] σ v σ1 := Con_mk 3 3 rfl (by decide +kernel) (fun _ H => ok_X_cautious_0_w H _ _ _ h)
theorem ok_M_cautious_84_w {l : Launch} {rv : Int} {rσ : pS} {G : Nat → pL → List pV → pS → Prop} (H : px_R l 10 214 rv rσ G) : ∀ (a1 a2 : Int) (σ : pS), f_M_cautious_84 a1 a2 σ = some (rv, rσ) → G 0 [some (.inr 84), some (.inl a1), some (.inl a2)] [] σ := by
  intro a1 a2 σ h
  unfold f_M_cautious_84 at h
  refine H [((2, 0, 0, 0, []), 1), ((1, 1, 0, 0, []), 1), ((23, 176, 1, 1, [(0, 84)]), 3), ((14, 0, 17, 0, []), 3), ((1, 2, 0, 0, []), 1), ((0, 0, 0, 0, []), 1), ((0, 0, 0, 5, []), 1), ((24, 137, 3, 1, []), 3), ((14, 1, 19, 0, []), 3), ((0, 0, 0, (-1), []), 1), ((27, 0, 0, 0, []), 1)] 0 _ _ _ (by decide +kernel) ?_
  obtain ⟨⟨vq1, σq1⟩, hq1, h⟩ := px_bind h
  dsimp only at h
  refine Exists.intro 1 (Exists.intro vq1 (Exists.intro σq1 (And.intro (Nat.le_of_ble_eq_true rfl) (And.intro (ok_M_canRun_84 hq1) ?_))))
  rcases px_ite h with ⟨c2, h⟩ | ⟨c2, h⟩
  · refine And.intro (fun _ => ?_) (fun hn => absurd c2 hn)
    refine H [((0, 0, 0, (-1), []), 1), ((27, 0, 0, 0, []), 1)] 17 _ _ _ (by decide +kernel) ?_
    exact Prod.mk.inj (Option.some.inj h)
  · refine And.intro (fun hp => absurd hp c2) (fun _ => ?_)
    obtain ⟨⟨vq3, σq3⟩, hq3, h⟩ := px_bind h
    dsimp only at h
    refine Exists.intro 0 (Exists.intro vq3 (Exists.intro σq3 (And.intro (Nat.le_of_ble_eq_true rfl) (And.intro (ok_M_in hq3) ?_))))
    rcases px_ite h with ⟨c4, h⟩ | ⟨c4, h⟩
    · refine And.intro (fun hp => absurd c4 hp) (fun _ => ?_)
      exact Prod.mk.inj (Option.some.inj h)
    · refine And.intro (fun _ => ?_) (fun hn => absurd c4 hn)
      refine H [((2, 0, 0, 0, []), 1), ((1, 1, 0, 0, []), 1), ((0, 0, 0, 1, []), 1), ((23, 213, 2, 1, [(0, 84)]), 3), ((14, 0, 36, 0, []), 3), ((2, 0, 0, 0, []), 1), ((1, 2, 0, 0, []), 1), ((23, 211, 1, 1, [(0, 84)]), 3), ((12, 0, 38, 0, []), 3), ((27, 0, 0, 0, []), 1)] 19 _ _ _ (by decide +kernel) ?_
      obtain ⟨⟨vq5, σq5⟩, hq5, h⟩ := px_bind h
      dsimp only at h
      refine Exists.intro 9 (Exists.intro vq5 (Exists.intro σq5 (And.intro (Nat.le_of_ble_eq_true rfl) (And.intro (ok_M_isTried_84 hq5) ?_))))
      rcases px_ite h with ⟨c6, h⟩ | ⟨c6, h⟩
      · refine And.intro (fun _ => ?_) (fun hn => absurd c6 hn)
        refine H [((0, 0, 0, (-5), []), 2), ((27, 0, 0, 0, []), 1)] 36 _ _ _ (by decide +kernel) ?_
        exact Prod.mk.inj (Option.some.inj h)
      · refine And.intro (fun hp => absurd hp c6) (fun _ => ?_)
        obtain ⟨⟨vq7, σq7⟩, hq7, h⟩ := px_bind h
        dsimp only at h
        refine Exists.intro 0 (Exists.intro vq7 (Exists.intro σq7 (And.intro (Nat.le_of_ble_eq_true rfl) (And.intro (ok_M_toldOf_84 hq7) ?_))))
        exact Prod.mk.inj (Option.some.inj h)
theorem ok_M_cautious_84 {l : Launch} {a1 a2 : Int} {σ : pS} {v : Int} {σ1 : pS} (h : f_M_cautious_84 a1 a2 σ = some (v, σ1)) : Con l 10 214 [.inr 84, .inl a1, .inl a2] σ v σ1 := Con_mk 3 3 rfl (by decide +kernel) (fun _ H => ok_M_cautious_84_w H _ _ _ h)
theorem ok_X_worst_0_p25 {l : Launch} {rv : Int} {rσ : pS} {G : Nat → pL → List pV → pS → Prop} (H : px_R l 0 118 rv rσ G) : ∀ (n : Nat) (a1 a2 a3 : Int) (σ : pS), f_X_worst_0_p25 n a1 a2 a3 σ = some (rv, rσ) → G 25 [some (.inr 0), some (.inl a1), some (.inl a2), some (.inl a3)] [] σ := by
  intro n
  induction n with
  | zero =>
    intro a1 a2 a3 σ h
    unfold f_X_worst_0_p25 at h
    cases h
  | succ n ih =>
    intro a1 a2 a3 σ h
    unfold f_X_worst_0_p25 at h
    refine H [((1, 3, 0, 0, []), 1), ((2, 0, 0, 0, []), 1), ((17, 0, 3, 0, []), 3), ((17, 3, 4, 0, []), 3), ((16, 4, 11, 0, []), 3), ((13, 3, 68, 0, []), 3), ((2, 0, 0, 0, []), 1), ((17, 0, 71, 0, []), 3), ((17, 71, 74, 0, []), 3), ((1, 3, 0, 0, []), 1), ((19, 74, 20, 0, []), 1), ((2, 0, 0, 0, []), 1), ((17, 0, 71, 0, []), 3), ((17, 71, 74, 0, []), 3), ((1, 2, 0, 0, []), 1), ((19, 74, 20, 0, []), 1), ((13, 5, 62, 0, []), 3), ((1, 3, 0, 0, []), 1), ((3, 2, 0, 0, []), 1), ((5, 3, 0, 1, []), 3), ((12, 0, 25, 0, []), 3)] 25 _ _ _ (by decide +kernel) ?_
    rcases px_ite h with ⟨c4, h⟩ | ⟨c4, h⟩
    · refine And.intro (fun _ => ?_) (fun hn => absurd c4 hn)
      refine H [((1, 1, 0, 0, []), 1), ((14, 1, 76, 0, []), 3), ((1, 2, 0, 0, []), 1), ((12, 0, 85, 0, []), 3), ((27, 0, 0, 0, []), 1)] 68 _ _ _ (by decide +kernel) ?_
      rcases px_ite h with ⟨c5, h⟩ | ⟨c5, h⟩
      · refine And.intro (fun hp => absurd c5 hp) (fun _ => ?_)
        exact Prod.mk.inj (Option.some.inj h)
      · refine And.intro (fun _ => ?_) (fun hn => absurd c5 hn)
        refine H [((2, 0, 0, 0, []), 1), ((17, 0, 71, 0, []), 3), ((17, 71, 74, 0, []), 3), ((1, 2, 0, 0, []), 1), ((19, 74, 20, 0, []), 1), ((27, 0, 0, 0, []), 1)] 76 _ _ _ (by decide +kernel) ?_
        obtain ⟨g6, h⟩ := px_gd h
        refine And.intro g6 ?_
        exact Prod.mk.inj (Option.some.inj h)
    · refine And.intro (fun hp => absurd hp c4) (fun _ => ?_)
      obtain ⟨g7, h⟩ := px_gd h
      refine And.intro g7 ?_
      obtain ⟨g8, h⟩ := px_gd h
      refine And.intro g8 ?_
      rcases px_ite h with ⟨c9, h⟩ | ⟨c9, h⟩
      · refine And.intro (fun _ => ?_) (fun hn => absurd c9 hn)
        refine H [((5, 3, 0, 1, []), 3), ((12, 0, 25, 0, []), 3)] 62 _ _ _ (by decide +kernel) ?_
        exact ih _ _ _ _ h
      · refine And.intro (fun hp => absurd hp c9) (fun _ => ?_)
        exact ih _ _ _ _ h
theorem ok_X_worst_0_w {l : Launch} {rv : Int} {rσ : pS} {G : Nat → pL → List pV → pS → Prop} (H : px_R l 0 118 rv rσ G) : ∀ (a1 : Int) (σ : pS), f_X_worst_0 a1 σ = some (rv, rσ) → G 0 [some (.inr 0), some (.inl a1), none, none] [] σ := by
  intro a1 σ h
  unfold f_X_worst_0 at h
  refine H [((1, 1, 0, 0, []), 1), ((14, 2, 9, 0, []), 3), ((1, 1, 0, 0, []), 1), ((0, 0, 0, 1, []), 1), ((13, 5, 11, 0, []), 3), ((0, 0, 0, (-1), []), 1), ((27, 0, 0, 0, []), 1)] 0 _ _ _ (by decide +kernel) ?_
  rcases px_ite h with ⟨c1, h⟩ | ⟨c1, h⟩
  · refine And.intro (fun _ => ?_) (fun hn => absurd c1 hn)
    refine H [((0, 0, 0, (-1), []), 1), ((27, 0, 0, 0, []), 1)] 9 _ _ _ (by decide +kernel) ?_
    exact Prod.mk.inj (Option.some.inj h)
  · refine And.intro (fun hp => absurd hp c1) (fun _ => ?_)
    rcases px_ite h with ⟨c2, h⟩ | ⟨c2, h⟩
    · refine And.intro (fun _ => ?_) (fun hn => absurd c2 hn)
      refine H [((2, 0, 0, 0, []), 1), ((16, 0, 8, 0, []), 3), ((14, 1, 21, 0, []), 3), ((0, 0, 0, (-2), []), 2), ((27, 0, 0, 0, []), 1)] 11 _ _ _ (by decide +kernel) ?_
      rcases px_ite h with ⟨c3, h⟩ | ⟨c3, h⟩
      · refine And.intro (fun hp => absurd c3 hp) (fun _ => ?_)
        exact Prod.mk.inj (Option.some.inj h)
      · refine And.intro (fun _ => ?_) (fun hn => absurd c3 hn)
        refine H [((0, 0, 0, 0, []), 1), ((3, 2, 0, 0, []), 1), ((0, 0, 0, 1, []), 1), ((3, 3, 0, 0, []), 1)] 21 _ _ _ (by decide +kernel) ?_
        exact ok_X_worst_0_p25 H _ _ _ _ _ h
    · refine And.intro (fun hp => absurd hp c2) (fun _ => ?_)
      exact Prod.mk.inj (Option.some.inj h)
theorem ok_X_worst_0 {l : Launch} {a1 : Int} {σ : pS} {v : Int} {σ1 : pS} (h : f_X_worst_0 a1 σ = some (v, σ1)) : Con l 0 118 [.inr 0, .inl a1] σ v σ1 := Con_mk 2 4 rfl (by decide +kernel) (fun _ H => ok_X_worst_0_w H _ _ h)
theorem ok_M_worstOp_84_p4 {l : Launch} {rv : Int} {rσ : pS} {G : Nat → pL → List pV → pS → Prop} (H : px_R l 0 229 rv rσ G) : ∀ (n : Nat) (a1 a2 : Int) (σ : pS), f_M_worstOp_84_p4 n a1 a2 σ = some (rv, rσ) → G 4 [some (.inr 84), some (.inl a1), some (.inl a2)] [] σ := by
  intro n
  induction n with
  | zero =>
    intro a1 a2 σ h
    unfold f_M_worstOp_84_p4 at h
    cases h
  | succ n ih =>
    intro a1 a2 σ h
    unfold f_M_worstOp_84_p4 at h
    refine H [((1, 2, 0, 0, []), 1), ((2, 0, 0, 0, []), 1), ((16, 84, 2, 0, []), 3), ((13, 3, 35, 0, []), 3), ((2, 0, 0, 0, []), 1), ((17, 84, 136, 0, []), 3), ((1, 2, 0, 0, []), 1), ((19, 136, 20, 0, []), 1), ((2, 0, 0, 0, []), 1), ((17, 84, 136, 0, []), 3), ((1, 1, 0, 0, []), 1), ((19, 136, 20, 0, []), 1), ((13, 5, 29, 0, []), 3), ((1, 2, 0, 0, []), 1), ((3, 1, 0, 0, []), 1), ((5, 2, 0, 1, []), 3), ((12, 0, 4, 0, []), 3)] 4 _ _ _ (by decide +kernel) ?_
    rcases px_ite h with ⟨c1, h⟩ | ⟨c1, h⟩
    · refine And.intro (fun _ => ?_) (fun hn => absurd c1 hn)
      refine H [((1, 1, 0, 0, []), 1), ((27, 0, 0, 0, []), 1)] 35 _ _ _ (by decide +kernel) ?_
      exact Prod.mk.inj (Option.some.inj h)
    · refine And.intro (fun hp => absurd hp c1) (fun _ => ?_)
      obtain ⟨g2, h⟩ := px_gd h
      refine And.intro g2 ?_
      obtain ⟨g3, h⟩ := px_gd h
      refine And.intro g3 ?_
      rcases px_ite h with ⟨c4, h⟩ | ⟨c4, h⟩
      · refine And.intro (fun _ => ?_) (fun hn => absurd c4 hn)
        refine H [((5, 2, 0, 1, []), 3), ((12, 0, 4, 0, []), 3)] 29 _ _ _ (by decide +kernel) ?_
        exact ih _ _ _ h
      · refine And.intro (fun hp => absurd hp c4) (fun _ => ?_)
        exact ih _ _ _ h
theorem ok_M_worstOp_84_w {l : Launch} {rv : Int} {rσ : pS} {G : Nat → pL → List pV → pS → Prop} (H : px_R l 0 229 rv rσ G) : ∀ (σ : pS), f_M_worstOp_84  σ = some (rv, rσ) → G 0 [some (.inr 84), none, none] [] σ := by
  intro  σ h
  unfold f_M_worstOp_84 at h
  refine H [((0, 0, 0, 0, []), 1), ((3, 1, 0, 0, []), 1), ((0, 0, 0, 1, []), 1), ((3, 2, 0, 0, []), 1)] 0 _ _ _ (by decide +kernel) ?_
  exact ok_M_worstOp_84_p4 H _ _ _ _ h
theorem ok_M_worstOp_84 {l : Launch} {σ : pS} {v : Int} {σ1 : pS} (h : f_M_worstOp_84  σ = some (v, σ1)) : Con l 0 229 [.inr 84] σ v σ1 := Con_mk 1 3 rfl (by decide +kernel) (fun _ H => ok_M_worstOp_84_w H  _ h)
theorem ok_M_worst_84_w {l : Launch} {rv : Int} {rσ : pS} {G : Nat → pL → List pV → pS → Prop} (H : px_R l 1 228 rv rσ G) : ∀ (a1 : Int) (σ : pS), f_M_worst_84 a1 σ = some (rv, rσ) → G 0 [some (.inr 84), some (.inl a1)] [] σ := by
  intro a1 σ h
  unfold f_M_worst_84 at h
  refine H [((1, 1, 0, 0, []), 1), ((0, 0, 0, 0, []), 1), ((0, 0, 0, 1, []), 1), ((24, 137, 3, 1, []), 3), ((14, 1, 11, 0, []), 3), ((0, 0, 0, (-1), []), 1), ((27, 0, 0, 0, []), 1)] 0 _ _ _ (by decide +kernel) ?_
  obtain ⟨⟨vq1, σq1⟩, hq1, h⟩ := px_bind h
  dsimp only at h
  refine Exists.intro 0 (Exists.intro vq1 (Exists.intro σq1 (And.intro (Nat.le_of_ble_eq_true rfl) (And.intro (ok_M_in hq1) ?_))))
  rcases px_ite h with ⟨c2, h⟩ | ⟨c2, h⟩
  · refine And.intro (fun hp => absurd c2 hp) (fun _ => ?_)
    exact Prod.mk.inj (Option.some.inj h)
  · refine And.intro (fun _ => ?_) (fun hn => absurd c2 hn)
    refine H [((2, 0, 0, 0, []), 1), ((16, 84, 75, 0, []), 3), ((14, 1, 21, 0, []), 3), ((0, 0, 0, (-2), []), 2), ((27, 0, 0, 0, []), 1)] 11 _ _ _ (by decide +kernel) ?_
    rcases px_ite h with ⟨c3, h⟩ | ⟨c3, h⟩
    · refine And.intro (fun hp => absurd c3 hp) (fun _ => ?_)
      exact Prod.mk.inj (Option.some.inj h)
    · refine And.intro (fun _ => ?_) (fun hn => absurd c3 hn)
      refine H [((1, 1, 0, 0, []), 1), ((14, 1, 32, 0, []), 3), ((2, 0, 0, 0, []), 1), ((23, 229, 0, 1, [(0, 84)]), 3), ((12, 0, 41, 0, []), 3), ((27, 0, 0, 0, []), 1)] 21 _ _ _ (by decide +kernel) ?_
      rcases px_ite h with ⟨c4, h⟩ | ⟨c4, h⟩
      · refine And.intro (fun hp => absurd c4 hp) (fun _ => ?_)
        obtain ⟨⟨vq7, σq7⟩, hq7, h⟩ := px_bind h
        dsimp only at h
        refine Exists.intro 0 (Exists.intro vq7 (Exists.intro σq7 (And.intro (Nat.le_of_ble_eq_true rfl) (And.intro (ok_M_worstOp_84 hq7) ?_))))
        exact Prod.mk.inj (Option.some.inj h)
      · refine And.intro (fun _ => ?_) (fun hn => absurd c4 hn)
        refine H [((2, 0, 0, 0, []), 1), ((17, 84, 136, 0, []), 3), ((2, 0, 0, 0, []), 1), ((23, 229, 0, 1, [(0, 84)]), 3), ((19, 136, 20, 0, []), 1), ((27, 0, 0, 0, []), 1)] 32 _ _ _ (by decide +kernel) ?_
        obtain ⟨⟨vq5, σq5⟩, hq5, h⟩ := px_bind h
        dsimp only at h
        refine Exists.intro 0 (Exists.intro vq5 (Exists.intro σq5 (And.intro (Nat.le_of_ble_eq_true rfl) (And.intro (ok_M_worstOp_84 hq5) ?_))))
        obtain ⟨g6, h⟩ := px_gd h
        refine And.intro g6 ?_
        exact Prod.mk.inj (Option.some.inj h)
theorem ok_M_worst_84 {l : Launch} {a1 : Int} {σ : pS} {v : Int} {σ1 : pS} (h : f_M_worst_84 a1 σ = some (v, σ1)) : Con l 1 228 [.inr 84, .inl a1] σ v σ1 := Con_mk 2 2 rfl (by decide +kernel) (fun _ H => ok_M_worst_84_w H _ _ h)
theorem ok_Plain_meet_65_4_w {l : Launch} {rv : Int} {rσ : pS} {G : Nat → pL → List pV → pS → Prop} (H : px_R l 1 122 rv rσ G) : ∀ (a2 a3 : Int) (σ : pS), f_Plain_meet_65_4 a2 a3 σ = some (rv, rσ) → G 0 [some (.inr 65), some (.inr 4), some (.inl a2), some (.inl a3)] [] σ := by
  intro a2 a3 σ h
  unfold f_Plain_meet_65_4 at h
  refine H [((2, 0, 0, 0, []), 1), ((17, 65, 70, 0, []), 3), ((1, 3, 0, 0, []), 1), ((19, 70, 20, 0, []), 1), ((2, 1, 0, 0, []), 1), ((17, 4, 7, 0, []), 3), ((1, 3, 0, 0, []), 1), ((19, 7, 20, 0, []), 1), ((2, 0, 0, 0, []), 1), ((17, 65, 70, 0, []), 3), ((1, 2, 0, 0, []), 1), ((19, 70, 20, 0, []), 1), ((24, 70, 3, 1, []), 3), ((14, 1, 48, 0, []), 3), ((2, 0, 0, 0, []), 1), ((17, 65, 70, 0, []), 3), ((1, 2, 0, 0, []), 1), ((19, 70, 20, 0, []), 1), ((2, 1, 0, 0, []), 1), ((17, 4, 7, 0, []), 3), ((1, 2, 0, 0, []), 1), ((19, 7, 20, 0, []), 1), ((2, 0, 0, 0, []), 1), ((17, 65, 70, 0, []), 3), ((1, 3, 0, 0, []), 1), ((19, 70, 20, 0, []), 1), ((24, 70, 3, 1, []), 3), ((14, 0, 52, 0, []), 3), ((0, 0, 0, 1, []), 1), ((12, 0, 53, 0, []), 3), ((27, 1, 0, 0, []), 1)] 0 _ _ _ (by decide +kernel) ?_
  obtain ⟨g1, h⟩ := px_gd h
  refine And.intro g1 ?_
  obtain ⟨g2, h⟩ := px_gd h
  refine And.intro g2 ?_
  obtain ⟨g3, h⟩ := px_gd h
  refine And.intro g3 ?_
  obtain ⟨⟨vq4, σq4⟩, hq4, h⟩ := px_bind h
  dsimp only at h
  refine Exists.intro 0 (Exists.intro vq4 (Exists.intro σq4 (And.intro (Nat.le_of_ble_eq_true rfl) (And.intro (ok_X_covers hq4) ?_))))
  rcases px_ite h with ⟨c5, h⟩ | ⟨c5, h⟩
  · refine And.intro (fun hp => absurd c5 hp) (fun _ => ?_)
    obtain ⟨g6, h⟩ := px_gd h
    refine And.intro g6 ?_
    obtain ⟨g7, h⟩ := px_gd h
    refine And.intro g7 ?_
    obtain ⟨g8, h⟩ := px_gd h
    refine And.intro g8 ?_
    obtain ⟨⟨vq9, σq9⟩, hq9, h⟩ := px_bind h
    dsimp only at h
    refine Exists.intro 0 (Exists.intro vq9 (Exists.intro σq9 (And.intro (Nat.le_of_ble_eq_true rfl) (And.intro (ok_X_covers hq9) ?_))))
    rcases px_ite h with ⟨c10, h⟩ | ⟨c10, h⟩
    · refine And.intro (fun _ => ?_) (fun hn => absurd c10 hn)
      refine H [((0, 0, 0, 0, []), 1), ((27, 1, 0, 0, []), 1)] 52 _ _ _ (by decide +kernel) ?_
      refine And.intro (show (0 : Int) ≤ 0 ∧ (0 : Int) ≤ 1 from by decide) ?_
      exact Prod.mk.inj (Option.some.inj h)
    · refine And.intro (fun hp => absurd hp c10) (fun _ => ?_)
      refine And.intro (show (0 : Int) ≤ 1 ∧ (1 : Int) ≤ 1 from by decide) ?_
      exact Prod.mk.inj (Option.some.inj h)
  · refine And.intro (fun _ => ?_) (fun hn => absurd c5 hn)
    refine H [((0, 0, 0, 1, []), 1), ((12, 0, 53, 0, []), 3), ((27, 1, 0, 0, []), 1)] 48 _ _ _ (by decide +kernel) ?_
    refine And.intro (show (0 : Int) ≤ 1 ∧ (1 : Int) ≤ 1 from by decide) ?_
    exact Prod.mk.inj (Option.some.inj h)
theorem ok_Plain_meet_65_4 {l : Launch} {a2 a3 : Int} {σ : pS} {v : Int} {σ1 : pS} (h : f_Plain_meet_65_4 a2 a3 σ = some (v, σ1)) : Con l 1 122 [.inr 65, .inr 4, .inl a2, .inl a3] σ v σ1 := Con_mk 4 4 rfl (by decide +kernel) (fun _ H => ok_Plain_meet_65_4_w H _ _ _ h)
theorem ok_Plain_sharedBytes_65_4_p15 {l : Launch} {rv : Int} {rσ : pS} {G : Nat → pL → List pV → pS → Prop} (H : px_R l 2 121 rv rσ G) {k_4 : Int → Int → pS → Option (Int × pS)} (hk_4 : ∀ (a2 a3 : Int) (σ : pS), k_4 a2 a3 σ = some (rv, rσ) → G 4 [some (.inr 65), some (.inr 4), some (.inl a2), some (.inl a3), none] [] σ) : ∀ (n : Nat) (a2 a3 a4 : Int) (σ : pS), f_Plain_sharedBytes_65_4_p15 k_4 n a2 a3 a4 σ = some (rv, rσ) → G 15 [some (.inr 65), some (.inr 4), some (.inl a2), some (.inl a3), some (.inl a4)] [] σ := by
  intro n
  induction n with
  | zero =>
    intro a2 a3 a4 σ h
    unfold f_Plain_sharedBytes_65_4_p15 at h
    cases h
  | succ n ih =>
    intro a2 a3 a4 σ h
    unfold f_Plain_sharedBytes_65_4_p15 at h
    refine H [((1, 4, 0, 0, []), 2), ((1, 3, 0, 0, []), 1), ((13, 3, 62, 0, []), 3), ((2, 1, 0, 0, []), 1), ((17, 4, 5, 0, []), 3), ((1, 3, 0, 0, []), 1), ((19, 5, 20, 0, []), 1), ((0, 0, 0, 2, []), 1), ((13, 1, 56, 0, []), 3), ((2, 1, 0, 0, []), 1), ((17, 4, 5, 0, []), 3), ((1, 4, 0, 0, []), 2), ((19, 5, 20, 0, []), 1), ((0, 0, 0, 3, []), 1), ((13, 1, 56, 0, []), 3), ((2, 0, 0, 0, []), 1), ((2, 1, 0, 0, []), 1), ((1, 3, 0, 0, []), 1), ((1, 4, 0, 0, []), 2), ((23, 122, 3, 1, [(0, 65)]), 3), ((14, 0, 56, 0, []), 3), ((5, 2, 0, 1, []), 3), ((5, 4, 0, 1, []), 3), ((12, 0, 15, 0, []), 3)] 15 _ _ _ (by decide +kernel) ?_
    rcases px_ite h with ⟨c2, h⟩ | ⟨c2, h⟩
    · refine And.intro (fun _ => ?_) (fun hn => absurd c2 hn)
      refine H [((5, 3, 0, 1, []), 3), ((12, 0, 4, 0, []), 3), ((29, 4, 0, 0, []), 0)] 62 _ _ _ (by decide +kernel) ?_
      exact hk_4 _ _ _ h
    · refine And.intro (fun hp => absurd hp c2) (fun _ => ?_)
      obtain ⟨g3, h⟩ := px_gd h
      refine And.intro g3 ?_
      rcases px_ite h with ⟨c4, h⟩ | ⟨c4, h⟩
      · refine And.intro (fun hp => absurd c4 hp) (fun _ => ?_)
        obtain ⟨g5, h⟩ := px_gd h
        refine And.intro g5 ?_
        rcases px_ite h with ⟨c6, h⟩ | ⟨c6, h⟩
        · refine And.intro (fun hp => absurd c6 hp) (fun _ => ?_)
          obtain ⟨⟨vq7, σq7⟩, hq7, h⟩ := px_bind h
          dsimp only at h
          refine Exists.intro 1 (Exists.intro vq7 (Exists.intro σq7 (And.intro (Nat.le_of_ble_eq_true rfl) (And.intro (ok_Plain_meet_65_4 hq7) ?_))))
          rcases px_ite h with ⟨c8, h⟩ | ⟨c8, h⟩
          · refine And.intro (fun _ => ?_) (fun hn => absurd c8 hn)
            refine H [((5, 4, 0, 1, []), 3), ((12, 0, 15, 0, []), 3)] 56 _ _ _ (by decide +kernel) ?_
            exact ih _ _ _ _ h
          · refine And.intro (fun hp => absurd hp c8) (fun _ => ?_)
            exact ih _ _ _ _ h
        · refine And.intro (fun _ => ?_) (fun hn => absurd c6 hn)
          refine H [((5, 4, 0, 1, []), 3), ((12, 0, 15, 0, []), 3)] 56 _ _ _ (by decide +kernel) ?_
          exact ih _ _ _ _ h
      · refine And.intro (fun _ => ?_) (fun hn => absurd c4 hn)
        refine H [((5, 4, 0, 1, []), 3), ((12, 0, 15, 0, []), 3)] 56 _ _ _ (by decide +kernel) ?_
        exact ih _ _ _ _ h
theorem ok_Plain_sharedBytes_65_4_p4 {l : Launch} {rv : Int} {rσ : pS} {G : Nat → pL → List pV → pS → Prop} (H : px_R l 2 121 rv rσ G) : ∀ (n : Nat) (a2 a3 : Int) (σ : pS), f_Plain_sharedBytes_65_4_p4 n a2 a3 σ = some (rv, rσ) → G 4 [some (.inr 65), some (.inr 4), some (.inl a2), some (.inl a3), none] [] σ := by
  intro n
  induction n with
  | zero =>
    intro a2 a3 σ h
    unfold f_Plain_sharedBytes_65_4_p4 at h
    cases h
  | succ n ih =>
    intro a2 a3 σ h
    unfold f_Plain_sharedBytes_65_4_p4 at h
    refine H [((1, 3, 0, 0, []), 1), ((2, 1, 0, 0, []), 1), ((16, 4, 11, 0, []), 3), ((13, 3, 68, 0, []), 3), ((0, 0, 0, 0, []), 1), ((3, 4, 0, 0, []), 2)] 4 _ _ _ (by decide +kernel) ?_
    rcases px_ite h with ⟨c1, h⟩ | ⟨c1, h⟩
    · refine And.intro (fun _ => ?_) (fun hn => absurd c1 hn)
      refine H [((1, 2, 0, 0, []), 1), ((27, 0, 0, 0, []), 1)] 68 _ _ _ (by decide +kernel) ?_
      exact Prod.mk.inj (Option.some.inj h)
    · refine And.intro (fun hp => absurd hp c1) (fun _ => ?_)
      exact ok_Plain_sharedBytes_65_4_p15 H ih _ _ _ _ _ h
theorem ok_Plain_sharedBytes_65_4_w {l : Launch} {rv : Int} {rσ : pS} {G : Nat → pL → List pV → pS → Prop} (H : px_R l 2 121 rv rσ G) : ∀ (σ : pS), f_Plain_sharedBytes_65_4  σ = some (rv, rσ) → G 0 [some (.inr 65), some (.inr 4), none, none, none] [] σ := by
  intro  σ h
  unfold f_Plain_sharedBytes_65_4 at h
  refine H [((0, 0, 0, 0, []), 1), ((3, 2, 0, 0, []), 1), ((0, 0, 0, 0, []), 1), ((3, 3, 0, 0, []), 1)] 0 _ _ _ (by decide +kernel) ?_
  exact ok_Plain_sharedBytes_65_4_p4 H _ _ _ _ h
theorem ok_Plain_sharedBytes_65_4 {l : Launch} {σ : pS} {v : Int} {σ1 : pS} (h : f_Plain_sharedBytes_65_4  σ = some (v, σ1)) : Con l 2 121 [.inr 65, .inr 4] σ v σ1 := Con_mk 2 5 rfl (by decide +kernel) (fun _ H => ok_Plain_sharedBytes_65_4_w H  _ h)
theorem ok_X_mix_0_w {l : Launch} {rv : Int} {rσ : pS} {G : Nat → pL → List pV → pS → Prop} (H : px_R l 4 120 rv rσ G) : ∀ (σ : pS), f_X_mix_0  σ = some (rv, rσ) → G 0 [some (.inr 0)] [] σ := by
  intro  σ h
  unfold f_X_mix_0 at h
  refine H [((2, 0, 0, 0, []), 1), ((17, 0, 65, 0, []), 3), ((2, 0, 0, 0, []), 1), ((17, 0, 3, 0, []), 3), ((17, 3, 4, 0, []), 3), ((2, 0, 0, 0, []), 1), ((17, 0, 3, 0, []), 3), ((17, 3, 24, 0, []), 3), ((23, 111, 2, 0, [(0, 65)]), 3), ((2, 0, 0, 0, []), 1), ((17, 0, 65, 0, []), 3), ((2, 0, 0, 0, []), 1), ((17, 0, 3, 0, []), 3), ((17, 3, 4, 0, []), 3), ((23, 121, 1, 1, [(0, 65)]), 3), ((27, 0, 0, 0, []), 1)] 0 _ _ _ (by decide +kernel) ?_
  obtain ⟨⟨vq1, σq1⟩, hq1, h⟩ := px_bind h
  dsimp only at h
  refine Exists.intro 3 (Exists.intro vq1 (Exists.intro σq1 (And.intro (Nat.le_of_ble_eq_true rfl) (And.intro (ok_Plain_go_65_4_24 hq1) ?_))))
  obtain ⟨⟨vq2, σq2⟩, hq2, h⟩ := px_bind h
  dsimp only at h
  refine Exists.intro 2 (Exists.intro vq2 (Exists.intro σq2 (And.intro (Nat.le_of_ble_eq_true rfl) (And.intro (ok_Plain_sharedBytes_65_4 hq2) ?_))))
  exact Prod.mk.inj (Option.some.inj h)
theorem ok_X_mix_0 {l : Launch} {σ : pS} {v : Int} {σ1 : pS} (h : f_X_mix_0  σ = some (v, σ1)) : Con l 4 120 [.inr 0] σ v σ1 := Con_mk 1 1 rfl (by decide +kernel) (fun _ H => ok_X_mix_0_w H  _ h)
theorem ok_M_haveByte_84_p2 {l : Launch} {rv : Int} {rσ : pS} {G : Nat → pL → List pV → pS → Prop} (H : px_R l 0 223 rv rσ G) : ∀ (n : Nat) (a1 a2 a3 : Int) (σ : pS), f_M_haveByte_84_p2 n a1 a2 a3 σ = some (rv, rσ) → G 2 [some (.inr 84), some (.inl a1), some (.inl a2), some (.inl a3)] [] σ := by
  intro n
  induction n with
  | zero =>
    intro a1 a2 a3 σ h
    unfold f_M_haveByte_84_p2 at h
    cases h
  | succ n ih =>
    intro a1 a2 a3 σ h
    unfold f_M_haveByte_84_p2 at h
    refine H [((1, 3, 0, 0, []), 1), ((2, 0, 0, 0, []), 1), ((17, 84, 93, 0, []), 3), ((1, 1, 0, 0, []), 1), ((19, 93, 20, 0, []), 1), ((13, 3, 47, 0, []), 3), ((2, 0, 0, 0, []), 1), ((17, 84, 142, 0, []), 3), ((1, 1, 0, 0, []), 1), ((19, 142, 20, 0, []), 1), ((1, 3, 0, 0, []), 1), ((6, 0, 0, 0, []), 1), ((2, 0, 0, 0, []), 1), ((17, 84, 142, 0, []), 3), ((1, 2, 0, 0, []), 1), ((19, 142, 20, 0, []), 1), ((6, 1, 0, 0, []), 1), ((0, 0, 0, 63, []), 2), ((6, 3, 0, 0, []), 1), ((2, 0, 0, 0, []), 1), ((17, 84, 93, 0, []), 3), ((1, 2, 0, 0, []), 1), ((19, 93, 20, 0, []), 1), ((13, 3, 41, 0, []), 3), ((0, 0, 0, 1, []), 1), ((27, 1, 0, 0, []), 1)] 2 _ _ _ (by decide +kernel) ?_
    obtain ⟨g1, h⟩ := px_gd h
    refine And.intro g1 ?_
    rcases px_ite h with ⟨c2, h⟩ | ⟨c2, h⟩
    · refine And.intro (fun _ => ?_) (fun hn => absurd c2 hn)
      refine H [((0, 0, 0, 0, []), 1), ((27, 1, 0, 0, []), 1)] 47 _ _ _ (by decide +kernel) ?_
      refine And.intro (show (0 : Int) ≤ 0 ∧ (0 : Int) ≤ 1 from by decide) ?_
      exact Prod.mk.inj (Option.some.inj h)
    · refine And.intro (fun hp => absurd hp c2) (fun _ => ?_)
      obtain ⟨g3, h⟩ := px_gd h
      refine And.intro g3 ?_
      obtain ⟨g4, h⟩ := px_gd h
      refine And.intro g4 ?_
      obtain ⟨g5, h⟩ := px_gd h
      refine And.intro g5 ?_
      rcases px_ite h with ⟨c6, h⟩ | ⟨c6, h⟩
      · refine And.intro (fun _ => ?_) (fun hn => absurd c6 hn)
        refine H [((5, 3, 0, 1, []), 3), ((12, 0, 2, 0, []), 3)] 41 _ _ _ (by decide +kernel) ?_
        exact ih _ _ _ _ h
      · refine And.intro (fun hp => absurd hp c6) (fun _ => ?_)
        refine And.intro (show (0 : Int) ≤ 1 ∧ (1 : Int) ≤ 1 from by decide) ?_
        exact Prod.mk.inj (Option.some.inj h)
theorem ok_M_haveByte_84_w {l : Launch} {rv : Int} {rσ : pS} {G : Nat → pL → List pV → pS → Prop} (H : px_R l 0 223 rv rσ G) : ∀ (a1 a2 : Int) (σ : pS), f_M_haveByte_84 a1 a2 σ = some (rv, rσ) → G 0 [some (.inr 84), some (.inl a1), some (.inl a2), none] [] σ := by
  intro a1 a2 σ h
  unfold f_M_haveByte_84 at h
  refine H [((0, 0, 0, 0, []), 1), ((3, 3, 0, 0, []), 1)] 0 _ _ _ (by decide +kernel) ?_
  exact ok_M_haveByte_84_p2 H _ _ _ _ _ h
theorem ok_M_haveByte_84 {l : Launch} {a1 a2 : Int} {σ : pS} {v : Int} {σ1 : pS} (h : f_M_haveByte_84 a1 a2 σ = some (v, σ1)) : Con l 0 223 [.inr 84, .inl a1, .inl a2] σ v σ1 := Con_mk 3 4 rfl (by decide +kernel) (fun _ H => ok_M_haveByte_84_w H _ _ _ h)
theorem ok_M_mix_84_p18 {l : Launch} {rv : Int} {rσ : pS} {G : Nat → pL → List pV → pS → Prop} (H : px_R l 3 222 rv rσ G) {k_8 : Int → Int → pS → Option (Int × pS)} (hk_8 : ∀ (a1 a2 : Int) (σ : pS), k_8 a1 a2 σ = some (rv, rσ) → G 8 [some (.inr 84), some (.inl a1), some (.inl a2), none] [] σ) : ∀ (n : Nat) (a1 a2 a3 : Int) (σ : pS), f_M_mix_84_p18 k_8 n a1 a2 a3 σ = some (rv, rσ) → G 18 [some (.inr 84), some (.inl a1), some (.inl a2), some (.inl a3)] [] σ := by
  intro n
  induction n with
  | zero =>
    intro a1 a2 a3 σ h
    unfold f_M_mix_84_p18 at h
    cases h
  | succ n ih =>
    intro a1 a2 a3 σ h
    unfold f_M_mix_84_p18 at h
    refine H [((1, 3, 0, 0, []), 1), ((1, 2, 0, 0, []), 1), ((13, 3, 62, 0, []), 3), ((2, 0, 0, 0, []), 1), ((17, 84, 88, 0, []), 3), ((1, 2, 0, 0, []), 1), ((19, 88, 20, 0, []), 1), ((0, 0, 0, 2, []), 1), ((13, 1, 56, 0, []), 3), ((2, 0, 0, 0, []), 1), ((17, 84, 88, 0, []), 3), ((1, 3, 0, 0, []), 1), ((19, 88, 20, 0, []), 1), ((0, 0, 0, 3, []), 1), ((13, 1, 56, 0, []), 3), ((2, 0, 0, 0, []), 1), ((1, 2, 0, 0, []), 1), ((1, 3, 0, 0, []), 1), ((23, 223, 2, 1, [(0, 84)]), 3), ((14, 0, 56, 0, []), 3), ((1, 1, 0, 0, []), 1), ((0, 0, 0, 1, []), 1), ((6, 0, 0, 0, []), 1), ((3, 1, 0, 0, []), 1), ((5, 3, 0, 1, []), 3), ((12, 0, 18, 0, []), 3)] 18 _ _ _ (by decide +kernel) ?_
    rcases px_ite h with ⟨c3, h⟩ | ⟨c3, h⟩
    · refine And.intro (fun _ => ?_) (fun hn => absurd c3 hn)
      refine H [((5, 2, 0, 1, []), 3), ((12, 0, 8, 0, []), 3), ((29, 3, 0, 0, []), 0)] 62 _ _ _ (by decide +kernel) ?_
      exact hk_8 _ _ _ h
    · refine And.intro (fun hp => absurd hp c3) (fun _ => ?_)
      obtain ⟨g4, h⟩ := px_gd h
      refine And.intro g4 ?_
      rcases px_ite h with ⟨c5, h⟩ | ⟨c5, h⟩
      · refine And.intro (fun hp => absurd c5 hp) (fun _ => ?_)
        obtain ⟨g6, h⟩ := px_gd h
        refine And.intro g6 ?_
        rcases px_ite h with ⟨c7, h⟩ | ⟨c7, h⟩
        · refine And.intro (fun hp => absurd c7 hp) (fun _ => ?_)
          obtain ⟨⟨vq8, σq8⟩, hq8, h⟩ := px_bind h
          dsimp only at h
          refine Exists.intro 0 (Exists.intro vq8 (Exists.intro σq8 (And.intro (Nat.le_of_ble_eq_true rfl) (And.intro (ok_M_haveByte_84 hq8) ?_))))
          rcases px_ite h with ⟨c9, h⟩ | ⟨c9, h⟩
          · refine And.intro (fun _ => ?_) (fun hn => absurd c9 hn)
            refine H [((5, 3, 0, 1, []), 3), ((12, 0, 18, 0, []), 3)] 56 _ _ _ (by decide +kernel) ?_
            exact ih _ _ _ _ h
          · refine And.intro (fun hp => absurd hp c9) (fun _ => ?_)
            exact ih _ _ _ _ h
        · refine And.intro (fun _ => ?_) (fun hn => absurd c7 hn)
          refine H [((5, 3, 0, 1, []), 3), ((12, 0, 18, 0, []), 3)] 56 _ _ _ (by decide +kernel) ?_
          exact ih _ _ _ _ h
      · refine And.intro (fun _ => ?_) (fun hn => absurd c5 hn)
        refine H [((5, 3, 0, 1, []), 3), ((12, 0, 18, 0, []), 3)] 56 _ _ _ (by decide +kernel) ?_
        exact ih _ _ _ _ h
theorem ok_M_mix_84_p8 {l : Launch} {rv : Int} {rσ : pS} {G : Nat → pL → List pV → pS → Prop} (H : px_R l 3 222 rv rσ G) : ∀ (n : Nat) (a1 a2 : Int) (σ : pS), f_M_mix_84_p8 n a1 a2 σ = some (rv, rσ) → G 8 [some (.inr 84), some (.inl a1), some (.inl a2), none] [] σ := by
  intro n
  induction n with
  | zero =>
    intro a1 a2 σ h
    unfold f_M_mix_84_p8 at h
    cases h
  | succ n ih =>
    intro a1 a2 σ h
    unfold f_M_mix_84_p8 at h
    refine H [((1, 2, 0, 0, []), 1), ((2, 0, 0, 0, []), 1), ((16, 84, 2, 0, []), 3), ((13, 3, 68, 0, []), 3), ((0, 0, 0, 0, []), 1), ((3, 3, 0, 0, []), 1)] 8 _ _ _ (by decide +kernel) ?_
    rcases px_ite h with ⟨c2, h⟩ | ⟨c2, h⟩
    · refine And.intro (fun _ => ?_) (fun hn => absurd c2 hn)
      refine H [((1, 1, 0, 0, []), 1), ((27, 0, 0, 0, []), 1)] 68 _ _ _ (by decide +kernel) ?_
      exact Prod.mk.inj (Option.some.inj h)
    · refine And.intro (fun hp => absurd hp c2) (fun _ => ?_)
      exact ok_M_mix_84_p18 H ih _ _ _ _ _ h
theorem ok_M_mix_84_w {l : Launch} {rv : Int} {rσ : pS} {G : Nat → pL → List pV → pS → Prop} (H : px_R l 3 222 rv rσ G) : ∀ (σ : pS), f_M_mix_84  σ = some (rv, rσ) → G 0 [some (.inr 84), none, none, none] [] σ := by
  intro  σ h
  unfold f_M_mix_84 at h
  refine H [((2, 0, 0, 0, []), 1), ((23, 219, 0, 0, [(0, 84)]), 3), ((0, 0, 0, 0, []), 1), ((3, 1, 0, 0, []), 1), ((0, 0, 0, 0, []), 1), ((3, 2, 0, 0, []), 1)] 0 _ _ _ (by decide +kernel) ?_
  obtain ⟨⟨vq1, σq1⟩, hq1, h⟩ := px_bind h
  dsimp only at h
  refine Exists.intro 2 (Exists.intro vq1 (Exists.intro σq1 (And.intro (Nat.le_of_ble_eq_true rfl) (And.intro (ok_M_goesPlain_84 hq1) ?_))))
  exact ok_M_mix_84_p8 H _ _ _ _ h
theorem ok_M_mix_84 {l : Launch} {σ : pS} {v : Int} {σ1 : pS} (h : f_M_mix_84  σ = some (v, σ1)) : Con l 3 222 [.inr 84] σ v σ1 := Con_mk 1 4 rfl (by decide +kernel) (fun _ H => ok_M_mix_84_w H  _ h)
theorem ok_Rows_put_82_w {l : Launch} {rv : Int} {rσ : pS} {G : Nat → pL → List pV → pS → Prop} (H : px_R l 0 124 rv rσ G) : ∀ (a1 a2 : Int) (σ : pS), f_Rows_put_82 a1 a2 σ = some (rv, rσ) → G 0 [some (.inr 82), some (.inl a1), some (.inl a2)] [] σ := by
  intro a1 a2 σ h
  unfold f_Rows_put_82 at h
  refine H [((2, 0, 0, 0, []), 1), ((17, 82, 83, 0, []), 3), ((1, 1, 0, 0, []), 1), ((19, 83, 2, 0, []), 1), ((0, 0, 0, 8, []), 2), ((13, 3, 35, 0, []), 3), ((2, 0, 0, 0, []), 1), ((17, 82, 149, 0, []), 3), ((1, 1, 0, 0, []), 1), ((22, 149, 2, 150, []), 1)] 0 _ _ _ (by decide +kernel) ?_
  obtain ⟨g1, h⟩ := px_gd h
  refine And.intro g1 ?_
  rcases px_ite h with ⟨c2, h⟩ | ⟨c2, h⟩
  · refine And.intro (fun _ => ?_) (fun hn => absurd c2 hn)
    refine H [((2, 0, 0, 0, []), 1), ((17, 82, 83, 0, []), 3), ((1, 1, 0, 0, []), 1), ((19, 83, 2, 0, []), 1), ((27, 0, 0, 0, []), 1)] 35 _ _ _ (by decide +kernel) ?_
    obtain ⟨g3, h⟩ := px_gd h
    refine And.intro g3 ?_
    exact Prod.mk.inj (Option.some.inj h)
  · refine And.intro (fun hp => absurd hp c2) (fun _ => ?_)
    obtain ⟨g4, h⟩ := px_gd h
    refine And.intro g4 (fun qq hqq (e : a1 = (qq : Int)) => ?_)
    rcases px_ite h with ⟨c5, h⟩ | ⟨c5, h⟩
    · have hz : qq = 0 := by omega
      subst hz
      refine H [((2, 0, 0, 0, []), 1), ((17, 82, 83, 0, []), 3), ((1, 1, 0, 0, []), 1), ((19, 83, 2, 0, []), 1), ((1, 2, 0, 0, []), 1), ((20, 150, 8, 0, []), 1), ((2, 0, 0, 0, []), 1), ((17, 82, 83, 0, []), 3), ((1, 1, 0, 0, []), 1), ((10, 0, 0, 0, []), 1), ((19, 83, 2, 0, []), 1), ((0, 0, 0, 1, []), 1), ((6, 0, 0, 0, []), 1), ((20, 83, 2, 0, []), 1), ((2, 0, 0, 0, []), 1), ((17, 82, 83, 0, []), 3), ((1, 1, 0, 0, []), 1), ((19, 83, 2, 0, []), 1), ((27, 0, 0, 0, []), 1)] 17 _ _ _ (by decide +kernel) ?_
      obtain ⟨g6, h⟩ := px_gd h
      refine And.intro g6 ?_
      obtain ⟨g7, h⟩ := px_gd h
      refine And.intro g7 ?_
      obtain ⟨g8, h⟩ := px_gd h
      refine And.intro g8 ?_
      obtain ⟨g9, h⟩ := px_gd h
      refine And.intro g9 ?_
      obtain ⟨g10, h⟩ := px_gd h
      refine And.intro g10 ?_
      exact Prod.mk.inj (Option.some.inj h)
    · have hz : qq = 1 := by omega
      subst hz
      refine H [((2, 0, 0, 0, []), 1), ((17, 82, 83, 0, []), 3), ((1, 1, 0, 0, []), 1), ((19, 83, 2, 0, []), 1), ((1, 2, 0, 0, []), 1), ((20, 151, 8, 0, []), 1), ((2, 0, 0, 0, []), 1), ((17, 82, 83, 0, []), 3), ((1, 1, 0, 0, []), 1), ((10, 0, 0, 0, []), 1), ((19, 83, 2, 0, []), 1), ((0, 0, 0, 1, []), 1), ((6, 0, 0, 0, []), 1), ((20, 83, 2, 0, []), 1), ((2, 0, 0, 0, []), 1), ((17, 82, 83, 0, []), 3), ((1, 1, 0, 0, []), 1), ((19, 83, 2, 0, []), 1), ((27, 0, 0, 0, []), 1)] 17 _ _ _ (by decide +kernel) ?_
      obtain ⟨g11, h⟩ := px_gd h
      refine And.intro g11 ?_
      obtain ⟨g12, h⟩ := px_gd h
      refine And.intro g12 ?_
      obtain ⟨g13, h⟩ := px_gd h
      refine And.intro g13 ?_
      obtain ⟨g14, h⟩ := px_gd h
      refine And.intro g14 ?_
      obtain ⟨g15, h⟩ := px_gd h
      refine And.intro g15 ?_
      exact Prod.mk.inj (Option.some.inj h)
theorem ok_Rows_put_82 {l : Launch} {a1 a2 : Int} {σ : pS} {v : Int} {σ1 : pS} (h : f_Rows_put_82 a1 a2 σ = some (v, σ1)) : Con l 0 124 [.inr 82, .inl a1, .inl a2] σ v σ1 := Con_mk 3 3 rfl (by decide +kernel) (fun _ H => ok_Rows_put_82_w H _ _ _ h)
theorem ok_X_watch_0_p59 {l : Launch} {rv : Int} {rσ : pS} {G : Nat → pL → List pV → pS → Prop} (H : px_R l 1 123 rv rσ G) : ∀ (a1 a2 s0 s1 : Int) (σ : pS), f_X_watch_0_p59 a1 a2 s0 s1 σ = some (rv, rσ) → G 59 [some (.inr 0), some (.inl a1), some (.inl a2)] [.inl s0, .inl s1] σ := by
  intro a1 a2 s0 s1 σ h
  unfold f_X_watch_0_p59 at h
  refine H [((13, 0, 87, 0, []), 3), ((2, 0, 0, 0, []), 1), ((17, 0, 82, 0, []), 3), ((0, 0, 0, 9999, []), 3), ((2, 0, 0, 0, []), 1), ((17, 0, 82, 0, []), 3), ((16, 82, 2, 0, []), 3), ((0, 0, 0, 1, []), 1), ((6, 0, 0, 0, []), 1), ((25, 0, 0, 0, []), 3), ((18, 82, 2, 0, []), 3), ((0, 0, 0, (-7), []), 2), ((27, 0, 0, 0, []), 1)] 59 _ _ _ (by decide +kernel) ?_
  rcases px_ite h with ⟨c9, h⟩ | ⟨c9, h⟩
  · refine And.intro (fun _ => ?_) (fun hn => absurd c9 hn)
    refine H [((2, 0, 0, 0, []), 1), ((17, 0, 82, 0, []), 3), ((1, 1, 0, 0, []), 1), ((1, 2, 0, 0, []), 1), ((23, 124, 2, 1, [(0, 82)]), 3), ((27, 0, 0, 0, []), 1)] 87 _ _ _ (by decide +kernel) ?_
    obtain ⟨⟨vq10, σq10⟩, hq10, h⟩ := px_bind h
    dsimp only at h
    refine Exists.intro 0 (Exists.intro vq10 (Exists.intro σq10 (And.intro (Nat.le_of_ble_eq_true rfl) (And.intro (ok_Rows_put_82 hq10) ?_))))
    exact Prod.mk.inj (Option.some.inj h)
  · refine And.intro (fun hp => absurd hp c9) (fun _ => ?_)
    exact Prod.mk.inj (Option.some.inj h)
theorem ok_X_watch_0_w {l : Launch} {rv : Int} {rσ : pS} {G : Nat → pL → List pV → pS → Prop} (H : px_R l 1 123 rv rσ G) : ∀ (a1 a2 : Int) (σ : pS), f_X_watch_0 a1 a2 σ = some (rv, rσ) → G 0 [some (.inr 0), some (.inl a1), some (.inl a2)] [] σ := by
  intro a1 a2 σ h
  unfold f_X_watch_0 at h
  refine H [((1, 1, 0, 0, []), 1), ((14, 2, 9, 0, []), 3), ((1, 1, 0, 0, []), 1), ((0, 0, 0, 2, []), 1), ((13, 2, 11, 0, []), 3), ((0, 0, 0, (-1), []), 1), ((27, 0, 0, 0, []), 1)] 0 _ _ _ (by decide +kernel) ?_
  rcases px_ite h with ⟨c1, h⟩ | ⟨c1, h⟩
  · refine And.intro (fun _ => ?_) (fun hn => absurd c1 hn)
    refine H [((0, 0, 0, (-1), []), 1), ((27, 0, 0, 0, []), 1)] 9 _ _ _ (by decide +kernel) ?_
    exact Prod.mk.inj (Option.some.inj h)
  · refine And.intro (fun hp => absurd hp c1) (fun _ => ?_)
    rcases px_ite h with ⟨c2, h⟩ | ⟨c2, h⟩
    · refine And.intro (fun _ => ?_) (fun hn => absurd c2 hn)
      refine H [((2, 0, 0, 0, []), 1), ((17, 0, 82, 0, []), 3), ((17, 82, 83, 0, []), 3), ((1, 1, 0, 0, []), 1), ((19, 83, 2, 0, []), 1), ((0, 0, 0, 8, []), 2), ((13, 2, 28, 0, []), 3), ((0, 0, 0, (-3), []), 2), ((27, 0, 0, 0, []), 1)] 11 _ _ _ (by decide +kernel) ?_
      obtain ⟨g3, h⟩ := px_gd h
      refine And.intro g3 ?_
      rcases px_ite h with ⟨c4, h⟩ | ⟨c4, h⟩
      · refine And.intro (fun _ => ?_) (fun hn => absurd c4 hn)
        refine H [((2, 0, 0, 0, []), 1), ((1, 2, 0, 0, []), 1), ((23, 104, 1, 1, [(0, 0)]), 3), ((14, 1, 38, 0, []), 3), ((0, 0, 0, (-1), []), 1), ((27, 0, 0, 0, []), 1)] 28 _ _ _ (by decide +kernel) ?_
        obtain ⟨⟨vq5, σq5⟩, hq5, h⟩ := px_bind h
        dsimp only at h
        refine Exists.intro 0 (Exists.intro vq5 (Exists.intro σq5 (And.intro (Nat.le_of_ble_eq_true rfl) (And.intro (ok_X_isOp_0 hq5) ?_))))
        rcases px_ite h with ⟨c6, h⟩ | ⟨c6, h⟩
        · refine And.intro (fun hp => absurd c6 hp) (fun _ => ?_)
          exact Prod.mk.inj (Option.some.inj h)
        · refine And.intro (fun _ => ?_) (fun hn => absurd c6 hn)
          refine H [((2, 0, 0, 0, []), 1), ((17, 0, 3, 0, []), 3), ((17, 3, 4, 0, []), 3), ((17, 4, 5, 0, []), 3), ((1, 2, 0, 0, []), 1), ((19, 5, 20, 0, []), 1), ((1, 1, 0, 0, []), 1), ((14, 1, 58, 0, []), 3), ((0, 0, 0, 2, []), 1), ((12, 0, 59, 0, []), 3)] 38 _ _ _ (by decide +kernel) ?_
          obtain ⟨g7, h⟩ := px_gd h
          refine And.intro g7 ?_
          rcases px_ite h with ⟨c8, h⟩ | ⟨c8, h⟩
          · refine And.intro (fun hp => absurd c8 hp) (fun _ => ?_)
            exact ok_X_watch_0_p59 H _ _ _ _ _ h
          · refine And.intro (fun _ => ?_) (fun hn => absurd c8 hn)
            refine H [((0, 0, 0, 3, []), 1)] 58 _ _ _ (by decide +kernel) ?_
            exact ok_X_watch_0_p59 H _ _ _ _ _ h
      · refine And.intro (fun hp => absurd hp c4) (fun _ => ?_)
        exact Prod.mk.inj (Option.some.inj h)
    · refine And.intro (fun hp => absurd hp c2) (fun _ => ?_)
      exact Prod.mk.inj (Option.some.inj h)
theorem ok_X_watch_0 {l : Launch} {a1 a2 : Int} {σ : pS} {v : Int} {σ1 : pS} (h : f_X_watch_0 a1 a2 σ = some (v, σ1)) : Con l 1 123 [.inr 0, .inl a1, .inl a2] σ v σ1 := Con_mk 3 3 rfl (by decide +kernel) (fun _ H => ok_X_watch_0_w H _ _ _ h)
theorem ok_M_watch_84_w {l : Launch} {rv : Int} {rσ : pS} {G : Nat → pL → List pV → pS → Prop} (H : px_R l 2 230 rv rσ G) : ∀ (a1 a2 : Int) (σ : pS), f_M_watch_84 a1 a2 σ = some (rv, rσ) → G 0 [some (.inr 84), some (.inl a1), some (.inl a2), none] [] σ := by
  intro a1 a2 σ h
  unfold f_M_watch_84 at h
  refine H [((1, 1, 0, 0, []), 1), ((0, 0, 0, 0, []), 1), ((0, 0, 0, 1, []), 1), ((24, 137, 3, 1, []), 3), ((14, 0, 17, 0, []), 3), ((2, 0, 0, 0, []), 1), ((1, 2, 0, 0, []), 1), ((23, 171, 1, 1, [(0, 84)]), 3), ((14, 1, 19, 0, []), 3), ((0, 0, 0, (-1), []), 1), ((27, 0, 0, 0, []), 1)] 0 _ _ _ (by decide +kernel) ?_
  obtain ⟨⟨vq1, σq1⟩, hq1, h⟩ := px_bind h
  dsimp only at h
  refine Exists.intro 0 (Exists.intro vq1 (Exists.intro σq1 (And.intro (Nat.le_of_ble_eq_true rfl) (And.intro (ok_M_in hq1) ?_))))
  rcases px_ite h with ⟨c2, h⟩ | ⟨c2, h⟩
  · refine And.intro (fun _ => ?_) (fun hn => absurd c2 hn)
    refine H [((0, 0, 0, (-1), []), 1), ((27, 0, 0, 0, []), 1)] 17 _ _ _ (by decide +kernel) ?_
    exact Prod.mk.inj (Option.some.inj h)
  · refine And.intro (fun hp => absurd hp c2) (fun _ => ?_)
    obtain ⟨⟨vq3, σq3⟩, hq3, h⟩ := px_bind h
    dsimp only at h
    refine Exists.intro 1 (Exists.intro vq3 (Exists.intro σq3 (And.intro (Nat.le_of_ble_eq_true rfl) (And.intro (ok_M_isOp_84 hq3) ?_))))
    rcases px_ite h with ⟨c4, h⟩ | ⟨c4, h⟩
    · refine And.intro (fun hp => absurd c4 hp) (fun _ => ?_)
      exact Prod.mk.inj (Option.some.inj h)
    · refine And.intro (fun _ => ?_) (fun hn => absurd c4 hn)
      refine H [((2, 0, 0, 0, []), 1), ((17, 84, 145, 0, []), 3), ((1, 1, 0, 0, []), 1), ((19, 145, 2, 0, []), 1), ((3, 3, 0, 0, []), 1), ((1, 3, 0, 0, []), 1), ((0, 0, 0, 8, []), 2), ((13, 1, 35, 0, []), 3), ((0, 0, 0, (-3), []), 2), ((27, 0, 0, 0, []), 1)] 19 _ _ _ (by decide +kernel) ?_
      obtain ⟨g5, h⟩ := px_gd h
      refine And.intro g5 ?_
      rcases px_ite h with ⟨c6, h⟩ | ⟨c6, h⟩
      · refine And.intro (fun hp => absurd c6 hp) (fun _ => ?_)
        exact Prod.mk.inj (Option.some.inj h)
      · refine And.intro (fun _ => ?_) (fun hn => absurd c6 hn)
        refine H [((2, 0, 0, 0, []), 1), ((17, 84, 88, 0, []), 3), ((1, 2, 0, 0, []), 1), ((19, 88, 20, 0, []), 1), ((0, 0, 0, 2, []), 1), ((1, 1, 0, 0, []), 1), ((6, 0, 0, 0, []), 1), ((13, 0, 66, 0, []), 3), ((2, 0, 0, 0, []), 1), ((0, 0, 0, 9999, []), 3), ((2, 0, 0, 0, []), 1), ((16, 84, 4, 0, []), 3), ((0, 0, 0, 1, []), 1), ((6, 0, 0, 0, []), 1), ((24, 190, 2, 1, []), 3), ((18, 84, 4, 0, []), 3), ((0, 0, 0, (-7), []), 2), ((27, 0, 0, 0, []), 1)] 35 _ _ _ (by decide +kernel) ?_
        obtain ⟨g7, h⟩ := px_gd h
        refine And.intro g7 ?_
        rcases px_ite h with ⟨c8, h⟩ | ⟨c8, h⟩
        · refine And.intro (fun _ => ?_) (fun hn => absurd c8 hn)
          refine H [((2, 0, 0, 0, []), 1), ((17, 84, 144, 0, []), 3), ((0, 0, 0, 8, []), 2), ((1, 1, 0, 0, []), 1), ((6, 2, 0, 0, []), 1), ((1, 3, 0, 0, []), 1), ((6, 0, 0, 0, []), 1), ((1, 2, 0, 0, []), 1), ((20, 144, 16, 0, []), 1), ((2, 0, 0, 0, []), 1), ((17, 84, 145, 0, []), 3), ((1, 1, 0, 0, []), 1), ((1, 3, 0, 0, []), 1), ((0, 0, 0, 1, []), 1), ((6, 0, 0, 0, []), 1), ((20, 145, 2, 0, []), 1), ((1, 3, 0, 0, []), 1), ((0, 0, 0, 1, []), 1), ((6, 0, 0, 0, []), 1), ((27, 0, 0, 0, []), 1)] 66 _ _ _ (by decide +kernel) ?_
          obtain ⟨g9, h⟩ := px_gd h
          refine And.intro g9 ?_
          obtain ⟨g10, h⟩ := px_gd h
          refine And.intro g10 ?_
          exact Prod.mk.inj (Option.some.inj h)
        · refine And.intro (fun hp => absurd hp c8) (fun _ => ?_)
          obtain ⟨⟨vq11, σq11⟩, hq11, h⟩ := px_bind h
          dsimp only at h
          refine Exists.intro 0 (Exists.intro vq11 (Exists.intro σq11 (And.intro (Nat.le_of_ble_eq_true rfl) (And.intro (ok_M_min hq11) ?_))))
          exact Prod.mk.inj (Option.some.inj h)
theorem ok_M_watch_84 {l : Launch} {a1 a2 : Int} {σ : pS} {v : Int} {σ1 : pS} (h : f_M_watch_84 a1 a2 σ = some (v, σ1)) : Con l 2 230 [.inr 84, .inl a1, .inl a2] σ v σ1 := Con_mk 3 4 rfl (by decide +kernel) (fun _ H => ok_M_watch_84_w H _ _ _ h)
theorem ok_X_watched_0_w {l : Launch} {rv : Int} {rσ : pS} {G : Nat → pL → List pV → pS → Prop} (H : px_R l 3 125 rv rσ G) : ∀ (a1 a2 a3 : Int) (σ : pS), f_X_watched_0 a1 a2 a3 σ = some (rv, rσ) → G 0 [some (.inr 0), some (.inl a1), some (.inl a2), some (.inl a3), none] [] σ := by
  intro a1 a2 a3 σ h
  unfold f_X_watched_0 at h
  refine H [((1, 1, 0, 0, []), 1), ((14, 2, 23, 0, []), 3), ((1, 1, 0, 0, []), 1), ((0, 0, 0, 2, []), 1), ((13, 3, 23, 0, []), 3), ((1, 2, 0, 0, []), 1), ((14, 2, 23, 0, []), 3), ((1, 3, 0, 0, []), 1), ((14, 2, 23, 0, []), 3), ((1, 3, 0, 0, []), 1), ((0, 0, 0, 6, []), 2), ((13, 5, 26, 0, []), 3), ((0, 0, 0, (-100000), []), 2), ((27, 0, 0, 0, []), 1)] 0 _ _ _ (by decide +kernel) ?_
  rcases px_ite h with ⟨c1, h⟩ | ⟨c1, h⟩
  · refine And.intro (fun _ => ?_) (fun hn => absurd c1 hn)
    refine H [((0, 0, 0, (-100000), []), 2), ((27, 0, 0, 0, []), 1)] 23 _ _ _ (by decide +kernel) ?_
    exact Prod.mk.inj (Option.some.inj h)
  · refine And.intro (fun hp => absurd hp c1) (fun _ => ?_)
    rcases px_ite h with ⟨c2, h⟩ | ⟨c2, h⟩
    · refine And.intro (fun _ => ?_) (fun hn => absurd c2 hn)
      refine H [((0, 0, 0, (-100000), []), 2), ((27, 0, 0, 0, []), 1)] 23 _ _ _ (by decide +kernel) ?_
      exact Prod.mk.inj (Option.some.inj h)
    · refine And.intro (fun hp => absurd hp c2) (fun _ => ?_)
      rcases px_ite h with ⟨c3, h⟩ | ⟨c3, h⟩
      · refine And.intro (fun _ => ?_) (fun hn => absurd c3 hn)
        refine H [((0, 0, 0, (-100000), []), 2), ((27, 0, 0, 0, []), 1)] 23 _ _ _ (by decide +kernel) ?_
        exact Prod.mk.inj (Option.some.inj h)
      · refine And.intro (fun hp => absurd hp c3) (fun _ => ?_)
        rcases px_ite h with ⟨c4, h⟩ | ⟨c4, h⟩
        · refine And.intro (fun _ => ?_) (fun hn => absurd c4 hn)
          refine H [((0, 0, 0, (-100000), []), 2), ((27, 0, 0, 0, []), 1)] 23 _ _ _ (by decide +kernel) ?_
          exact Prod.mk.inj (Option.some.inj h)
        · refine And.intro (fun hp => absurd hp c4) (fun _ => ?_)
          rcases px_ite h with ⟨c5, h⟩ | ⟨c5, h⟩
          · refine And.intro (fun _ => ?_) (fun hn => absurd c5 hn)
            refine H [((1, 2, 0, 0, []), 1), ((2, 0, 0, 0, []), 1), ((17, 0, 82, 0, []), 3), ((17, 82, 83, 0, []), 3), ((1, 1, 0, 0, []), 1), ((19, 83, 2, 0, []), 1), ((13, 3, 45, 0, []), 3), ((1, 2, 0, 0, []), 1), ((0, 0, 0, 8, []), 2), ((13, 2, 48, 0, []), 3), ((0, 0, 0, (-4), []), 2), ((27, 0, 0, 0, []), 1)] 26 _ _ _ (by decide +kernel) ?_
            obtain ⟨g6, h⟩ := px_gd h
            refine And.intro g6 ?_
            rcases px_ite h with ⟨c7, h⟩ | ⟨c7, h⟩
            · refine And.intro (fun _ => ?_) (fun hn => absurd c7 hn)
              refine H [((0, 0, 0, (-4), []), 2), ((27, 0, 0, 0, []), 1)] 45 _ _ _ (by decide +kernel) ?_
              exact Prod.mk.inj (Option.some.inj h)
            · refine And.intro (fun hp => absurd hp c7) (fun _ => ?_)
              rcases px_ite h with ⟨c8, h⟩ | ⟨c8, h⟩
              · refine And.intro (fun _ => ?_) (fun hn => absurd c8 hn)
                refine H [((2, 0, 0, 0, []), 1), ((17, 0, 82, 0, []), 3), ((17, 82, 149, 0, []), 3), ((1, 1, 0, 0, []), 1), ((22, 149, 2, 150, []), 1)] 48 _ _ _ (by decide +kernel) ?_
                obtain ⟨g9, h⟩ := px_gd h
                refine And.intro g9 (fun qq hqq (e : a1 = (qq : Int)) => ?_)
                rcases px_ite h with ⟨c10, h⟩ | ⟨c10, h⟩
                · have hz : qq = 0 := by omega
                  subst hz
                  refine H [((1, 2, 0, 0, []), 1), ((19, 150, 8, 0, []), 1), ((3, 4, 0, 0, []), 2), ((1, 3, 0, 0, []), 1), ((0, 0, 0, 6, []), 2), ((13, 1, 72, 0, []), 3), ((1, 4, 0, 0, []), 2), ((12, 0, 79, 0, []), 3), ((27, 0, 0, 0, []), 1)] 57 _ _ _ (by decide +kernel) ?_
                  obtain ⟨g11, h⟩ := px_gd h
                  refine And.intro g11 ?_
                  rcases px_ite h with ⟨c12, h⟩ | ⟨c12, h⟩
                  · refine And.intro (fun hp => absurd c12 hp) (fun _ => ?_)
                    exact Prod.mk.inj (Option.some.inj h)
                  · refine And.intro (fun _ => ?_) (fun hn => absurd c12 hn)
                    refine H [((2, 0, 0, 0, []), 1), ((1, 4, 0, 0, []), 2), ((1, 3, 0, 0, []), 1), ((23, 103, 2, 1, [(0, 0)]), 3), ((27, 0, 0, 0, []), 1)] 72 _ _ _ (by decide +kernel) ?_
                    obtain ⟨⟨vq13, σq13⟩, hq13, h⟩ := px_bind h
                    dsimp only at h
                    refine Exists.intro 2 (Exists.intro vq13 (Exists.intro σq13 (And.intro (Nat.le_of_ble_eq_true rfl) (And.intro (ok_X_opIs_0 hq13) ?_))))
                    exact Prod.mk.inj (Option.some.inj h)
                · have hz : qq = 1 := by omega
                  subst hz
                  refine H [((1, 2, 0, 0, []), 1), ((19, 151, 8, 0, []), 1), ((3, 4, 0, 0, []), 2), ((1, 3, 0, 0, []), 1), ((0, 0, 0, 6, []), 2), ((13, 1, 72, 0, []), 3), ((1, 4, 0, 0, []), 2), ((12, 0, 79, 0, []), 3), ((27, 0, 0, 0, []), 1)] 57 _ _ _ (by decide +kernel) ?_
                  obtain ⟨g14, h⟩ := px_gd h
                  refine And.intro g14 ?_
                  rcases px_ite h with ⟨c15, h⟩ | ⟨c15, h⟩
                  · refine And.intro (fun hp => absurd c15 hp) (fun _ => ?_)
                    exact Prod.mk.inj (Option.some.inj h)
                  · refine And.intro (fun _ => ?_) (fun hn => absurd c15 hn)
                    refine H [((2, 0, 0, 0, []), 1), ((1, 4, 0, 0, []), 2), ((1, 3, 0, 0, []), 1), ((23, 103, 2, 1, [(0, 0)]), 3), ((27, 0, 0, 0, []), 1)] 72 _ _ _ (by decide +kernel) ?_
                    obtain ⟨⟨vq16, σq16⟩, hq16, h⟩ := px_bind h
                    dsimp only at h
                    refine Exists.intro 2 (Exists.intro vq16 (Exists.intro σq16 (And.intro (Nat.le_of_ble_eq_true rfl) (And.intro (ok_X_opIs_0 hq16) ?_))))
                    exact Prod.mk.inj (Option.some.inj h)
              · refine And.intro (fun hp => absurd hp c8) (fun _ => ?_)
                exact Prod.mk.inj (Option.some.inj h)
          · refine And.intro (fun hp => absurd hp c5) (fun _ => ?_)
            exact Prod.mk.inj (Option.some.inj h)
theorem ok_X_watched_0 {l : Launch} {a1 a2 a3 : Int} {σ : pS} {v : Int} {σ1 : pS} (h : f_X_watched_0 a1 a2 a3 σ = some (v, σ1)) : Con l 3 125 [.inr 0, .inl a1, .inl a2, .inl a3] σ v σ1 := Con_mk 4 5 rfl (by decide +kernel) (fun _ H => ok_X_watched_0_w H _ _ _ _ h)
theorem ok_M_watched_84_w {l : Launch} {rv : Int} {rσ : pS} {G : Nat → pL → List pV → pS → Prop} (H : px_R l 1 231 rv rσ G) : ∀ (a1 a2 a3 : Int) (σ : pS), f_M_watched_84 a1 a2 a3 σ = some (rv, rσ) → G 0 [some (.inr 84), some (.inl a1), some (.inl a2), some (.inl a3), none] [] σ := by
  intro a1 a2 a3 σ h
  unfold f_M_watched_84 at h
  refine H [((1, 1, 0, 0, []), 1), ((0, 0, 0, 0, []), 1), ((0, 0, 0, 1, []), 1), ((24, 137, 3, 1, []), 3), ((14, 0, 23, 0, []), 3), ((1, 2, 0, 0, []), 1), ((14, 2, 23, 0, []), 3), ((1, 3, 0, 0, []), 1), ((0, 0, 0, 0, []), 1), ((0, 0, 0, 6, []), 2), ((24, 137, 3, 1, []), 3), ((14, 1, 27, 0, []), 3), ((0, 0, 0, (-100000), []), 3), ((27, 0, 0, 0, []), 1)] 0 _ _ _ (by decide +kernel) ?_
  obtain ⟨⟨vq1, σq1⟩, hq1, h⟩ := px_bind h
  dsimp only at h
  refine Exists.intro 0 (Exists.intro vq1 (Exists.intro σq1 (And.intro (Nat.le_of_ble_eq_true rfl) (And.intro (ok_M_in hq1) ?_))))
  rcases px_ite h with ⟨c2, h⟩ | ⟨c2, h⟩
  · refine And.intro (fun _ => ?_) (fun hn => absurd c2 hn)
    refine H [((0, 0, 0, (-100000), []), 3), ((27, 0, 0, 0, []), 1)] 23 _ _ _ (by decide +kernel) ?_
    exact Prod.mk.inj (Option.some.inj h)
  · refine And.intro (fun hp => absurd hp c2) (fun _ => ?_)
    rcases px_ite h with ⟨c3, h⟩ | ⟨c3, h⟩
    · refine And.intro (fun _ => ?_) (fun hn => absurd c3 hn)
      refine H [((0, 0, 0, (-100000), []), 3), ((27, 0, 0, 0, []), 1)] 23 _ _ _ (by decide +kernel) ?_
      exact Prod.mk.inj (Option.some.inj h)
    · refine And.intro (fun hp => absurd hp c3) (fun _ => ?_)
      obtain ⟨⟨vq4, σq4⟩, hq4, h⟩ := px_bind h
      dsimp only at h
      refine Exists.intro 0 (Exists.intro vq4 (Exists.intro σq4 (And.intro (Nat.le_of_ble_eq_true rfl) (And.intro (ok_M_in hq4) ?_))))
      rcases px_ite h with ⟨c5, h⟩ | ⟨c5, h⟩
      · refine And.intro (fun hp => absurd c5 hp) (fun _ => ?_)
        exact Prod.mk.inj (Option.some.inj h)
      · refine And.intro (fun _ => ?_) (fun hn => absurd c5 hn)
        refine H [((1, 2, 0, 0, []), 1), ((2, 0, 0, 0, []), 1), ((17, 84, 145, 0, []), 3), ((1, 1, 0, 0, []), 1), ((19, 145, 2, 0, []), 1), ((13, 2, 40, 0, []), 3), ((0, 0, 0, (-4), []), 2), ((27, 0, 0, 0, []), 1)] 27 _ _ _ (by decide +kernel) ?_
        obtain ⟨g6, h⟩ := px_gd h
        refine And.intro g6 ?_
        rcases px_ite h with ⟨c7, h⟩ | ⟨c7, h⟩
        · refine And.intro (fun _ => ?_) (fun hn => absurd c7 hn)
          refine H [((2, 0, 0, 0, []), 1), ((17, 84, 144, 0, []), 3), ((0, 0, 0, 8, []), 2), ((1, 1, 0, 0, []), 1), ((6, 2, 0, 0, []), 1), ((1, 2, 0, 0, []), 1), ((6, 0, 0, 0, []), 1), ((19, 144, 16, 0, []), 1), ((3, 4, 0, 0, []), 2), ((1, 3, 0, 0, []), 1), ((0, 0, 0, 6, []), 2), ((13, 1, 64, 0, []), 3), ((1, 4, 0, 0, []), 2), ((12, 0, 71, 0, []), 3), ((27, 0, 0, 0, []), 1)] 40 _ _ _ (by decide +kernel) ?_
          obtain ⟨g8, h⟩ := px_gd h
          refine And.intro g8 ?_
          rcases px_ite h with ⟨c9, h⟩ | ⟨c9, h⟩
          · refine And.intro (fun hp => absurd c9 hp) (fun _ => ?_)
            exact Prod.mk.inj (Option.some.inj h)
          · refine And.intro (fun _ => ?_) (fun hn => absurd c9 hn)
            refine H [((2, 0, 0, 0, []), 1), ((1, 4, 0, 0, []), 2), ((1, 3, 0, 0, []), 1), ((23, 227, 2, 1, [(0, 84)]), 3), ((27, 0, 0, 0, []), 1)] 64 _ _ _ (by decide +kernel) ?_
            obtain ⟨⟨vq10, σq10⟩, hq10, h⟩ := px_bind h
            dsimp only at h
            refine Exists.intro 0 (Exists.intro vq10 (Exists.intro σq10 (And.intro (Nat.le_of_ble_eq_true rfl) (And.intro (ok_M_toldOfOp_84 hq10) ?_))))
            exact Prod.mk.inj (Option.some.inj h)
        · refine And.intro (fun hp => absurd hp c7) (fun _ => ?_)
          exact Prod.mk.inj (Option.some.inj h)
theorem ok_M_watched_84 {l : Launch} {a1 a2 a3 : Int} {σ : pS} {v : Int} {σ1 : pS} (h : f_M_watched_84 a1 a2 a3 σ = some (v, σ1)) : Con l 1 231 [.inr 84, .inl a1, .inl a2, .inl a3] σ v σ1 := Con_mk 4 5 rfl (by decide +kernel) (fun _ H => ok_M_watched_84_w H _ _ _ _ h)
theorem ok_State_withSet_24_p4 {l : Launch} {rv : Int} {rσ : pS} {G : Nat → pL → List pV → pS → Prop} (H : px_R l 0 127 rv rσ G) : ∀ (n : Nat) (a1 a2 : Int) (σ : pS), f_State_withSet_24_p4 n a1 a2 σ = some (rv, rσ) → G 4 [some (.inr 24), some (.inl a1), some (.inl a2)] [] σ := by
  intro n
  induction n with
  | zero =>
    intro a1 a2 σ h
    unfold f_State_withSet_24_p4 at h
    cases h
  | succ n ih =>
    intro a1 a2 σ h
    unfold f_State_withSet_24_p4 at h
    refine H [((1, 2, 0, 0, []), 1), ((0, 0, 0, 20, []), 2), ((13, 3, 29, 0, []), 3), ((2, 0, 0, 0, []), 1), ((17, 24, 27, 0, []), 3), ((1, 2, 0, 0, []), 1), ((19, 27, 20, 0, []), 1), ((0, 0, 0, (-1), []), 1), ((13, 0, 23, 0, []), 3), ((5, 1, 0, 1, []), 3), ((5, 2, 0, 1, []), 3), ((12, 0, 4, 0, []), 3)] 4 _ _ _ (by decide +kernel) ?_
    rcases px_ite h with ⟨c1, h⟩ | ⟨c1, h⟩
    · refine And.intro (fun _ => ?_) (fun hn => absurd c1 hn)
      refine H [((1, 1, 0, 0, []), 1), ((27, 0, 0, 0, []), 1)] 29 _ _ _ (by decide +kernel) ?_
      exact Prod.mk.inj (Option.some.inj h)
    · refine And.intro (fun hp => absurd hp c1) (fun _ => ?_)
      obtain ⟨g2, h⟩ := px_gd h
      refine And.intro g2 ?_
      rcases px_ite h with ⟨c3, h⟩ | ⟨c3, h⟩
      · refine And.intro (fun _ => ?_) (fun hn => absurd c3 hn)
        refine H [((5, 2, 0, 1, []), 3), ((12, 0, 4, 0, []), 3)] 23 _ _ _ (by decide +kernel) ?_
        exact ih _ _ _ h
      · refine And.intro (fun hp => absurd hp c3) (fun _ => ?_)
        exact ih _ _ _ h
theorem ok_State_withSet_24_w {l : Launch} {rv : Int} {rσ : pS} {G : Nat → pL → List pV → pS → Prop} (H : px_R l 0 127 rv rσ G) : ∀ (σ : pS), f_State_withSet_24  σ = some (rv, rσ) → G 0 [some (.inr 24), none, none] [] σ := by
  intro  σ h
  unfold f_State_withSet_24 at h
  refine H [((0, 0, 0, 0, []), 1), ((3, 1, 0, 0, []), 1), ((0, 0, 0, 0, []), 1), ((3, 2, 0, 0, []), 1)] 0 _ _ _ (by decide +kernel) ?_
  exact ok_State_withSet_24_p4 H _ _ _ _ h
theorem ok_State_withSet_24 {l : Launch} {σ : pS} {v : Int} {σ1 : pS} (h : f_State_withSet_24  σ = some (v, σ1)) : Con l 0 127 [.inr 24] σ v σ1 := Con_mk 1 3 rfl (by decide +kernel) (fun _ H => ok_State_withSet_24_w H  _ h)
theorem ok_X_forget_0_w {l : Launch} {rv : Int} {rσ : pS} {G : Nat → pL → List pV → pS → Prop} (H : px_R l 2 126 rv rσ G) : ∀ (σ : pS), f_X_forget_0  σ = some (rv, rσ) → G 0 [some (.inr 0), none] [] σ := by
  intro  σ h
  unfold f_X_forget_0 at h
  refine H [((2, 0, 0, 0, []), 1), ((17, 0, 3, 0, []), 3), ((17, 3, 24, 0, []), 3), ((23, 127, 0, 1, [(0, 24)]), 3), ((3, 1, 0, 0, []), 1), ((2, 0, 0, 0, []), 1), ((17, 0, 3, 0, []), 3), ((17, 3, 24, 0, []), 3), ((23, 55, 0, 0, [(0, 24)]), 3), ((1, 1, 0, 0, []), 1), ((27, 0, 0, 0, []), 1)] 0 _ _ _ (by decide +kernel) ?_
  obtain ⟨⟨vq1, σq1⟩, hq1, h⟩ := px_bind h
  dsimp only at h
  refine Exists.intro 0 (Exists.intro vq1 (Exists.intro σq1 (And.intro (Nat.le_of_ble_eq_true rfl) (And.intro (ok_State_withSet_24 hq1) ?_))))
  obtain ⟨⟨vq2, σq2⟩, hq2, h⟩ := px_bind h
  dsimp only at h
  refine Exists.intro 1 (Exists.intro vq2 (Exists.intro σq2 (And.intro (Nat.le_of_ble_eq_true rfl) (And.intro (ok_State_dropSets_24 hq2) ?_))))
  exact Prod.mk.inj (Option.some.inj h)
theorem ok_X_forget_0 {l : Launch} {σ : pS} {v : Int} {σ1 : pS} (h : f_X_forget_0  σ = some (v, σ1)) : Con l 2 126 [.inr 0] σ v σ1 := Con_mk 1 2 rfl (by decide +kernel) (fun _ H => ok_X_forget_0_w H  _ h)
theorem ok_M_withSet_84_p4 {l : Launch} {rv : Int} {rσ : pS} {G : Nat → pL → List pV → pS → Prop} (H : px_R l 0 233 rv rσ G) : ∀ (n : Nat) (a1 a2 : Int) (σ : pS), f_M_withSet_84_p4 n a1 a2 σ = some (rv, rσ) → G 4 [some (.inr 84), some (.inl a1), some (.inl a2)] [] σ := by
  intro n
  induction n with
  | zero =>
    intro a1 a2 σ h
    unfold f_M_withSet_84_p4 at h
    cases h
  | succ n ih =>
    intro a1 a2 σ h
    unfold f_M_withSet_84_p4 at h
    refine H [((1, 2, 0, 0, []), 1), ((2, 0, 0, 0, []), 1), ((16, 84, 2, 0, []), 3), ((13, 3, 32, 0, []), 3), ((2, 0, 0, 0, []), 1), ((17, 84, 87, 0, []), 3), ((1, 2, 0, 0, []), 1), ((19, 87, 20, 0, []), 1), ((0, 0, 0, (-1), []), 1), ((13, 0, 26, 0, []), 3), ((1, 1, 0, 0, []), 1), ((0, 0, 0, 1, []), 1), ((6, 0, 0, 0, []), 1), ((3, 1, 0, 0, []), 1), ((5, 2, 0, 1, []), 3), ((12, 0, 4, 0, []), 3)] 4 _ _ _ (by decide +kernel) ?_
    rcases px_ite h with ⟨c1, h⟩ | ⟨c1, h⟩
    · refine And.intro (fun _ => ?_) (fun hn => absurd c1 hn)
      refine H [((1, 1, 0, 0, []), 1), ((27, 0, 0, 0, []), 1)] 32 _ _ _ (by decide +kernel) ?_
      exact Prod.mk.inj (Option.some.inj h)
    · refine And.intro (fun hp => absurd hp c1) (fun _ => ?_)
      obtain ⟨g2, h⟩ := px_gd h
      refine And.intro g2 ?_
      rcases px_ite h with ⟨c3, h⟩ | ⟨c3, h⟩
      · refine And.intro (fun _ => ?_) (fun hn => absurd c3 hn)
        refine H [((5, 2, 0, 1, []), 3), ((12, 0, 4, 0, []), 3)] 26 _ _ _ (by decide +kernel) ?_
        exact ih _ _ _ h
      · refine And.intro (fun hp => absurd hp c3) (fun _ => ?_)
        exact ih _ _ _ h
theorem ok_M_withSet_84_w {l : Launch} {rv : Int} {rσ : pS} {G : Nat → pL → List pV → pS → Prop} (H : px_R l 0 233 rv rσ G) : ∀ (σ : pS), f_M_withSet_84  σ = some (rv, rσ) → G 0 [some (.inr 84), none, none] [] σ := by
  intro  σ h
  unfold f_M_withSet_84 at h
  refine H [((0, 0, 0, 0, []), 1), ((3, 1, 0, 0, []), 1), ((0, 0, 0, 0, []), 1), ((3, 2, 0, 0, []), 1)] 0 _ _ _ (by decide +kernel) ?_
  exact ok_M_withSet_84_p4 H _ _ _ _ h
theorem ok_M_withSet_84 {l : Launch} {σ : pS} {v : Int} {σ1 : pS} (h : f_M_withSet_84  σ = some (v, σ1)) : Con l 0 233 [.inr 84] σ v σ1 := Con_mk 1 3 rfl (by decide +kernel) (fun _ H => ok_M_withSet_84_w H  _ h)
theorem ok_M_forget_84_p7 {l : Launch} {rv : Int} {rσ : pS} {G : Nat → pL → List pV → pS → Prop} (H : px_R l 1 232 rv rσ G) : ∀ (n : Nat) (a1 a2 : Int) (σ : pS), f_M_forget_84_p7 n a1 a2 σ = some (rv, rσ) → G 7 [some (.inr 84), some (.inl a1), some (.inl a2)] [] σ := by
  intro n
  induction n with
  | zero =>
    intro a1 a2 σ h
    unfold f_M_forget_84_p7 at h
    cases h
  | succ n ih =>
    intro a1 a2 σ h
    unfold f_M_forget_84_p7 at h
    refine H [((1, 2, 0, 0, []), 1), ((2, 0, 0, 0, []), 1), ((16, 84, 2, 0, []), 3), ((13, 3, 28, 0, []), 3), ((2, 0, 0, 0, []), 1), ((17, 84, 87, 0, []), 3), ((1, 2, 0, 0, []), 1), ((0, 0, 0, (-1), []), 1), ((20, 87, 20, 0, []), 1), ((5, 2, 0, 1, []), 3), ((12, 0, 7, 0, []), 3)] 7 _ _ _ (by decide +kernel) ?_
    rcases px_ite h with ⟨c2, h⟩ | ⟨c2, h⟩
    · refine And.intro (fun _ => ?_) (fun hn => absurd c2 hn)
      refine H [((1, 1, 0, 0, []), 1), ((27, 0, 0, 0, []), 1)] 28 _ _ _ (by decide +kernel) ?_
      exact Prod.mk.inj (Option.some.inj h)
    · refine And.intro (fun hp => absurd hp c2) (fun _ => ?_)
      obtain ⟨g3, h⟩ := px_gd h
      refine And.intro g3 ?_
      exact ih _ _ _ h
theorem ok_M_forget_84_w {l : Launch} {rv : Int} {rσ : pS} {G : Nat → pL → List pV → pS → Prop} (H : px_R l 1 232 rv rσ G) : ∀ (σ : pS), f_M_forget_84  σ = some (rv, rσ) → G 0 [some (.inr 84), none, none] [] σ := by
  intro  σ h
  unfold f_M_forget_84 at h
  refine H [((2, 0, 0, 0, []), 1), ((23, 233, 0, 1, [(0, 84)]), 3), ((3, 1, 0, 0, []), 1), ((0, 0, 0, 0, []), 1), ((3, 2, 0, 0, []), 1)] 0 _ _ _ (by decide +kernel) ?_
  obtain ⟨⟨vq1, σq1⟩, hq1, h⟩ := px_bind h
  dsimp only at h
  refine Exists.intro 0 (Exists.intro vq1 (Exists.intro σq1 (And.intro (Nat.le_of_ble_eq_true rfl) (And.intro (ok_M_withSet_84 hq1) ?_))))
  exact ok_M_forget_84_p7 H _ _ _ _ h
theorem ok_M_forget_84 {l : Launch} {σ : pS} {v : Int} {σ1 : pS} (h : f_M_forget_84  σ = some (v, σ1)) : Con l 1 232 [.inr 84] σ v σ1 := Con_mk 1 3 rfl (by decide +kernel) (fun _ H => ok_M_forget_84_w H  _ h)
theorem ok_X_seed_0_w {l : Launch} {rv : Int} {rσ : pS} {G : Nat → pL → List pV → pS → Prop} (H : px_R l 0 128 rv rσ G) : ∀ (a1 : Int) (σ : pS), f_X_seed_0 a1 σ = some (rv, rσ) → G 0 [some (.inr 0), some (.inl a1)] [] σ := by
  intro a1 σ h
  unfold f_X_seed_0 at h
  refine H [((1, 1, 0, 0, []), 1), ((14, 2, 10, 0, []), 3), ((1, 1, 0, 0, []), 1), ((0, 0, 0, 65536, []), 2), ((13, 2, 12, 0, []), 3), ((0, 0, 0, 0, []), 1), ((27, 1, 0, 0, []), 1)] 0 _ _ _ (by decide +kernel) ?_
  rcases px_ite h with ⟨c1, h⟩ | ⟨c1, h⟩
  · refine And.intro (fun _ => ?_) (fun hn => absurd c1 hn)
    refine H [((0, 0, 0, 0, []), 1), ((27, 1, 0, 0, []), 1)] 10 _ _ _ (by decide +kernel) ?_
    refine And.intro (show (0 : Int) ≤ 0 ∧ (0 : Int) ≤ 1 from by decide) ?_
    exact Prod.mk.inj (Option.some.inj h)
  · refine And.intro (fun hp => absurd hp c1) (fun _ => ?_)
    rcases px_ite h with ⟨c2, h⟩ | ⟨c2, h⟩
    · refine And.intro (fun _ => ?_) (fun hn => absurd c2 hn)
      refine H [((2, 0, 0, 0, []), 1), ((17, 0, 3, 0, []), 3), ((17, 3, 24, 0, []), 3), ((1, 1, 0, 0, []), 1), ((18, 24, 5, 0, []), 3), ((0, 0, 0, 1, []), 1), ((27, 1, 0, 0, []), 1)] 12 _ _ _ (by decide +kernel) ?_
      refine And.intro (show (0 : Int) ≤ 1 ∧ (1 : Int) ≤ 1 from by decide) ?_
      exact Prod.mk.inj (Option.some.inj h)
    · refine And.intro (fun hp => absurd hp c2) (fun _ => ?_)
      refine And.intro (show (0 : Int) ≤ 0 ∧ (0 : Int) ≤ 1 from by decide) ?_
      exact Prod.mk.inj (Option.some.inj h)
theorem ok_X_seed_0 {l : Launch} {a1 : Int} {σ : pS} {v : Int} {σ1 : pS} (h : f_X_seed_0 a1 σ = some (v, σ1)) : Con l 0 128 [.inr 0, .inl a1] σ v σ1 := Con_mk 2 2 rfl (by decide +kernel) (fun _ H => ok_X_seed_0_w H _ _ h)
theorem ok_M_seed_84_w {l : Launch} {rv : Int} {rσ : pS} {G : Nat → pL → List pV → pS → Prop} (H : px_R l 1 234 rv rσ G) : ∀ (a1 : Int) (σ : pS), f_M_seed_84 a1 σ = some (rv, rσ) → G 0 [some (.inr 84), some (.inl a1)] [] σ := by
  intro a1 σ h
  unfold f_M_seed_84 at h
  refine H [((1, 1, 0, 0, []), 1), ((0, 0, 0, 0, []), 1), ((0, 0, 0, 65535, []), 3), ((24, 137, 3, 1, []), 3), ((14, 1, 13, 0, []), 3), ((0, 0, 0, 0, []), 1), ((27, 1, 0, 0, []), 1)] 0 _ _ _ (by decide +kernel) ?_
  obtain ⟨⟨vq1, σq1⟩, hq1, h⟩ := px_bind h
  dsimp only at h
  refine Exists.intro 0 (Exists.intro vq1 (Exists.intro σq1 (And.intro (Nat.le_of_ble_eq_true rfl) (And.intro (ok_M_in hq1) ?_))))
  rcases px_ite h with ⟨c2, h⟩ | ⟨c2, h⟩
  · refine And.intro (fun hp => absurd c2 hp) (fun _ => ?_)
    refine And.intro (show (0 : Int) ≤ 0 ∧ (0 : Int) ≤ 1 from by decide) ?_
    exact Prod.mk.inj (Option.some.inj h)
  · refine And.intro (fun _ => ?_) (fun hn => absurd c2 hn)
    refine H [((2, 0, 0, 0, []), 1), ((1, 1, 0, 0, []), 1), ((18, 84, 0, 0, []), 3), ((0, 0, 0, 1, []), 1), ((27, 1, 0, 0, []), 1)] 13 _ _ _ (by decide +kernel) ?_
    refine And.intro (show (0 : Int) ≤ 1 ∧ (1 : Int) ≤ 1 from by decide) ?_
    exact Prod.mk.inj (Option.some.inj h)
theorem ok_M_seed_84 {l : Launch} {a1 : Int} {σ : pS} {v : Int} {σ1 : pS} (h : f_M_seed_84 a1 σ = some (v, σ1)) : Con l 1 234 [.inr 84, .inl a1] σ v σ1 := Con_mk 2 2 rfl (by decide +kernel) (fun _ H => ok_M_seed_84_w H _ _ h)
theorem ok_State_copyCellsFrom_78_24_w {l : Launch} {rv : Int} {rσ : pS} {G : Nat → pL → List pV → pS → Prop} (H : px_R l 1 62 rv rσ G) : ∀ (σ : pS), f_State_copyCellsFrom_78_24  σ = some (rv, rσ) → G 0 [some (.inr 78), some (.inr 24)] [] σ := by
  intro  σ h
  unfold f_State_copyCellsFrom_78_24 at h
  refine H [((2, 1, 0, 0, []), 1), ((17, 24, 25, 0, []), 3), ((0, 0, 0, 0, []), 1), ((2, 0, 0, 0, []), 1), ((17, 78, 79, 0, []), 3), ((0, 0, 0, 0, []), 1), ((0, 0, 0, 8, []), 2), ((26, 25, 79, 8, []), 3), ((2, 1, 0, 0, []), 1), ((17, 24, 26, 0, []), 3), ((0, 0, 0, 0, []), 1), ((2, 0, 0, 0, []), 1), ((17, 78, 80, 0, []), 3), ((0, 0, 0, 0, []), 1), ((0, 0, 0, 64, []), 2), ((26, 26, 80, 64, []), 3), ((2, 0, 0, 0, []), 1), ((2, 1, 0, 0, []), 1), ((16, 24, 4, 0, []), 3), ((18, 78, 4, 0, []), 3), ((2, 0, 0, 0, []), 1), ((2, 1, 0, 0, []), 1), ((16, 24, 5, 0, []), 3), ((18, 78, 5, 0, []), 3), ((28, 0, 0, 0, []), 1)] 0 _ _ _ (by decide +kernel) ?_
  exact (Prod.mk.inj (Option.some.inj h)).2
theorem ok_State_copyCellsFrom_78_24 {l : Launch} {σ : pS} {v : Int} {σ1 : pS} (h : f_State_copyCellsFrom_78_24  σ = some (v, σ1)) : Con l 1 62 [.inr 78, .inr 24] σ v σ1 := Con_mk 2 2 rfl (by decide +kernel) (fun _ H => ok_State_copyCellsFrom_78_24_w H  _ h)
theorem ok_State_copySetsFrom_78_24_w {l : Launch} {rv : Int} {rσ : pS} {G : Nat → pL → List pV → pS → Prop} (H : px_R l 1 63 rv rσ G) : ∀ (σ : pS), f_State_copySetsFrom_78_24  σ = some (rv, rσ) → G 0 [some (.inr 78), some (.inr 24)] [] σ := by
  intro  σ h
  unfold f_State_copySetsFrom_78_24 at h
  refine H [((2, 1, 0, 0, []), 1), ((17, 24, 27, 0, []), 3), ((0, 0, 0, 0, []), 1), ((2, 0, 0, 0, []), 1), ((17, 78, 81, 0, []), 3), ((0, 0, 0, 0, []), 1), ((0, 0, 0, 20, []), 2), ((26, 27, 81, 20, []), 3), ((2, 0, 0, 0, []), 1), ((2, 1, 0, 0, []), 1), ((16, 24, 3, 0, []), 3), ((18, 78, 3, 0, []), 3), ((28, 0, 0, 0, []), 1)] 0 _ _ _ (by decide +kernel) ?_
  exact (Prod.mk.inj (Option.some.inj h)).2
theorem ok_State_copySetsFrom_78_24 {l : Launch} {σ : pS} {v : Int} {σ1 : pS} (h : f_State_copySetsFrom_78_24  σ = some (v, σ1)) : Con l 1 63 [.inr 78, .inr 24] σ v σ1 := Con_mk 2 2 rfl (by decide +kernel) (fun _ H => ok_State_copySetsFrom_78_24_w H  _ h)
theorem ok_State_copyFrom_78_24_w {l : Launch} {rv : Int} {rσ : pS} {G : Nat → pL → List pV → pS → Prop} (H : px_R l 2 61 rv rσ G) : ∀ (σ : pS), f_State_copyFrom_78_24  σ = some (rv, rσ) → G 0 [some (.inr 78), some (.inr 24)] [] σ := by
  intro  σ h
  unfold f_State_copyFrom_78_24 at h
  refine H [((2, 0, 0, 0, []), 1), ((2, 1, 0, 0, []), 1), ((23, 62, 1, 0, [(0, 78)]), 3), ((2, 0, 0, 0, []), 1), ((2, 1, 0, 0, []), 1), ((23, 63, 1, 0, [(0, 78)]), 3), ((28, 0, 0, 0, []), 1)] 0 _ _ _ (by decide +kernel) ?_
  obtain ⟨⟨vq1, σq1⟩, hq1, h⟩ := px_bind h
  dsimp only at h
  refine Exists.intro 1 (Exists.intro vq1 (Exists.intro σq1 (And.intro (Nat.le_of_ble_eq_true rfl) (And.intro (ok_State_copyCellsFrom_78_24 hq1) ?_))))
  obtain ⟨⟨vq2, σq2⟩, hq2, h⟩ := px_bind h
  dsimp only at h
  refine Exists.intro 1 (Exists.intro vq2 (Exists.intro σq2 (And.intro (Nat.le_of_ble_eq_true rfl) (And.intro (ok_State_copySetsFrom_78_24 hq2) ?_))))
  exact (Prod.mk.inj (Option.some.inj h)).2
theorem ok_State_copyFrom_78_24 {l : Launch} {σ : pS} {v : Int} {σ1 : pS} (h : f_State_copyFrom_78_24  σ = some (v, σ1)) : Con l 2 61 [.inr 78, .inr 24] σ v σ1 := Con_mk 2 2 rfl (by decide +kernel) (fun _ H => ok_State_copyFrom_78_24_w H  _ h)
theorem ok_X_keep_0_w {l : Launch} {rv : Int} {rσ : pS} {G : Nat → pL → List pV → pS → Prop} (H : px_R l 3 129 rv rσ G) : ∀ (σ : pS), f_X_keep_0  σ = some (rv, rσ) → G 0 [some (.inr 0)] [] σ := by
  intro  σ h
  unfold f_X_keep_0 at h
  refine H [((2, 0, 0, 0, []), 1), ((17, 0, 78, 0, []), 3), ((2, 0, 0, 0, []), 1), ((17, 0, 3, 0, []), 3), ((17, 3, 24, 0, []), 3), ((23, 61, 1, 0, [(0, 78)]), 3), ((2, 0, 0, 0, []), 1), ((0, 0, 0, 1, []), 1), ((18, 0, 9, 1, []), 3), ((2, 0, 0, 0, []), 1), ((0, 0, 0, 0, []), 1), ((18, 0, 10, 1, []), 3), ((2, 0, 0, 0, []), 1), ((17, 0, 3, 0, []), 3), ((17, 3, 24, 0, []), 3), ((16, 24, 4, 0, []), 3), ((27, 0, 0, 0, []), 1)] 0 _ _ _ (by decide +kernel) ?_
  obtain ⟨⟨vq1, σq1⟩, hq1, h⟩ := px_bind h
  dsimp only at h
  refine Exists.intro 2 (Exists.intro vq1 (Exists.intro σq1 (And.intro (Nat.le_of_ble_eq_true rfl) (And.intro (ok_State_copyFrom_78_24 hq1) ?_))))
  refine And.intro (show (0 : Int) ≤ 1 ∧ (1 : Int) ≤ 1 from by decide) ?_
  refine And.intro (show (0 : Int) ≤ 0 ∧ (0 : Int) ≤ 1 from by decide) ?_
  exact Prod.mk.inj (Option.some.inj h)
theorem ok_X_keep_0 {l : Launch} {σ : pS} {v : Int} {σ1 : pS} (h : f_X_keep_0  σ = some (v, σ1)) : Con l 3 129 [.inr 0] σ v σ1 := Con_mk 1 1 rfl (by decide +kernel) (fun _ H => ok_X_keep_0_w H  _ h)
theorem ok_M_keep_84_p91 {l : Launch} {rv : Int} {rσ : pS} {G : Nat → pL → List pV → pS → Prop} (H : px_R l 0 235 rv rσ G) : ∀ (n : Nat) (a1 : Int) (σ : pS), f_M_keep_84_p91 n a1 σ = some (rv, rσ) → G 91 [some (.inr 84), some (.inl a1)] [] σ := by
  intro n
  induction n with
  | zero =>
    intro a1 σ h
    unfold f_M_keep_84_p91 at h
    cases h
  | succ n ih =>
    intro a1 σ h
    unfold f_M_keep_84_p91 at h
    refine H [((1, 1, 0, 0, []), 1), ((0, 0, 0, 20, []), 2), ((13, 3, 115, 0, []), 3), ((2, 0, 0, 0, []), 1), ((17, 84, 148, 0, []), 3), ((1, 1, 0, 0, []), 1), ((2, 0, 0, 0, []), 1), ((17, 84, 87, 0, []), 3), ((1, 1, 0, 0, []), 1), ((19, 87, 20, 0, []), 1), ((20, 148, 20, 0, []), 1), ((5, 1, 0, 1, []), 3), ((12, 0, 91, 0, []), 3)] 91 _ _ _ (by decide +kernel) ?_
    rcases px_ite h with ⟨c3, h⟩ | ⟨c3, h⟩
    · refine And.intro (fun _ => ?_) (fun hn => absurd c3 hn)
      refine H [((2, 0, 0, 0, []), 1), ((16, 84, 1, 0, []), 3), ((27, 0, 0, 0, []), 1)] 115 _ _ _ (by decide +kernel) ?_
      exact Prod.mk.inj (Option.some.inj h)
    · refine And.intro (fun hp => absurd hp c3) (fun _ => ?_)
      obtain ⟨g4, h⟩ := px_gd h
      refine And.intro g4 ?_
      obtain ⟨g5, h⟩ := px_gd h
      refine And.intro g5 ?_
      exact ih _ _ h
theorem ok_M_keep_84_p65 {l : Launch} {rv : Int} {rσ : pS} {G : Nat → pL → List pV → pS → Prop} (H : px_R l 0 235 rv rσ G) : ∀ (n : Nat) (a1 : Int) (σ : pS), f_M_keep_84_p65 n a1 σ = some (rv, rσ) → G 65 [some (.inr 84), some (.inl a1)] [] σ := by
  intro n
  induction n with
  | zero =>
    intro a1 σ h
    unfold f_M_keep_84_p65 at h
    cases h
  | succ n ih =>
    intro a1 σ h
    unfold f_M_keep_84_p65 at h
    refine H [((1, 1, 0, 0, []), 1), ((0, 0, 0, 64, []), 2), ((13, 3, 89, 0, []), 3), ((2, 0, 0, 0, []), 1), ((17, 84, 147, 0, []), 3), ((1, 1, 0, 0, []), 1), ((2, 0, 0, 0, []), 1), ((17, 84, 86, 0, []), 3), ((1, 1, 0, 0, []), 1), ((19, 86, 64, 0, []), 1), ((20, 147, 64, 0, []), 1), ((5, 1, 0, 1, []), 3), ((12, 0, 65, 0, []), 3)] 65 _ _ _ (by decide +kernel) ?_
    rcases px_ite h with ⟨c2, h⟩ | ⟨c2, h⟩
    · refine And.intro (fun _ => ?_) (fun hn => absurd c2 hn)
      refine H [((0, 0, 0, 0, []), 1), ((3, 1, 0, 0, []), 1)] 89 _ _ _ (by decide +kernel) ?_
      exact ok_M_keep_84_p91 H _ _ _ h
    · refine And.intro (fun hp => absurd hp c2) (fun _ => ?_)
      obtain ⟨g6, h⟩ := px_gd h
      refine And.intro g6 ?_
      obtain ⟨g7, h⟩ := px_gd h
      refine And.intro g7 ?_
      exact ih _ _ h
theorem ok_M_keep_84_p39 {l : Launch} {rv : Int} {rσ : pS} {G : Nat → pL → List pV → pS → Prop} (H : px_R l 0 235 rv rσ G) : ∀ (n : Nat) (a1 : Int) (σ : pS), f_M_keep_84_p39 n a1 σ = some (rv, rσ) → G 39 [some (.inr 84), some (.inl a1)] [] σ := by
  intro n
  induction n with
  | zero =>
    intro a1 σ h
    unfold f_M_keep_84_p39 at h
    cases h
  | succ n ih =>
    intro a1 σ h
    unfold f_M_keep_84_p39 at h
    refine H [((1, 1, 0, 0, []), 1), ((0, 0, 0, 8, []), 2), ((13, 3, 63, 0, []), 3), ((2, 0, 0, 0, []), 1), ((17, 84, 146, 0, []), 3), ((1, 1, 0, 0, []), 1), ((2, 0, 0, 0, []), 1), ((17, 84, 85, 0, []), 3), ((1, 1, 0, 0, []), 1), ((19, 85, 8, 0, []), 1), ((20, 146, 8, 0, []), 1), ((5, 1, 0, 1, []), 3), ((12, 0, 39, 0, []), 3)] 39 _ _ _ (by decide +kernel) ?_
    rcases px_ite h with ⟨c1, h⟩ | ⟨c1, h⟩
    · refine And.intro (fun _ => ?_) (fun hn => absurd c1 hn)
      refine H [((0, 0, 0, 0, []), 1), ((3, 1, 0, 0, []), 1)] 63 _ _ _ (by decide +kernel) ?_
      exact ok_M_keep_84_p65 H _ _ _ h
    · refine And.intro (fun hp => absurd hp c1) (fun _ => ?_)
      obtain ⟨g8, h⟩ := px_gd h
      refine And.intro g8 ?_
      obtain ⟨g9, h⟩ := px_gd h
      refine And.intro g9 ?_
      exact ih _ _ h
theorem ok_M_keep_84_w {l : Launch} {rv : Int} {rσ : pS} {G : Nat → pL → List pV → pS → Prop} (H : px_R l 0 235 rv rσ G) : ∀ (σ : pS), f_M_keep_84  σ = some (rv, rσ) → G 0 [some (.inr 84), none] [] σ := by
  intro  σ h
  unfold f_M_keep_84 at h
  refine H [((2, 0, 0, 0, []), 1), ((0, 0, 0, 1, []), 1), ((18, 84, 88, 1, []), 3), ((2, 0, 0, 0, []), 1), ((2, 0, 0, 0, []), 1), ((16, 84, 5, 0, []), 3), ((18, 84, 89, 0, []), 3), ((2, 0, 0, 0, []), 1), ((2, 0, 0, 0, []), 1), ((16, 84, 3, 0, []), 3), ((18, 84, 90, 0, []), 3), ((2, 0, 0, 0, []), 1), ((2, 0, 0, 0, []), 1), ((16, 84, 1, 0, []), 3), ((18, 84, 91, 0, []), 3), ((2, 0, 0, 0, []), 1), ((2, 0, 0, 0, []), 1), ((16, 84, 0, 0, []), 3), ((18, 84, 92, 0, []), 3), ((0, 0, 0, 0, []), 1), ((3, 1, 0, 0, []), 1)] 0 _ _ _ (by decide +kernel) ?_
  refine And.intro (show (0 : Int) ≤ 1 ∧ (1 : Int) ≤ 1 from by decide) ?_
  exact ok_M_keep_84_p39 H _ _ _ h
theorem ok_M_keep_84 {l : Launch} {σ : pS} {v : Int} {σ1 : pS} (h : f_M_keep_84  σ = some (v, σ1)) : Con l 0 235 [.inr 84] σ v σ1 := Con_mk 1 2 rfl (by decide +kernel) (fun _ H => ok_M_keep_84_w H  _ h)
theorem ok_State_copyCellsFrom_24_78_w {l : Launch} {rv : Int} {rσ : pS} {G : Nat → pL → List pV → pS → Prop} (H : px_R l 1 62 rv rσ G) : ∀ (σ : pS), f_State_copyCellsFrom_24_78  σ = some (rv, rσ) → G 0 [some (.inr 24), some (.inr 78)] [] σ := by
  intro  σ h
  unfold f_State_copyCellsFrom_24_78 at h
  refine H [((2, 1, 0, 0, []), 1), ((17, 78, 79, 0, []), 3), ((0, 0, 0, 0, []), 1), ((2, 0, 0, 0, []), 1), ((17, 24, 25, 0, []), 3), ((0, 0, 0, 0, []), 1), ((0, 0, 0, 8, []), 2), ((26, 79, 25, 8, []), 3), ((2, 1, 0, 0, []), 1), ((17, 78, 80, 0, []), 3), ((0, 0, 0, 0, []), 1), ((2, 0, 0, 0, []), 1), ((17, 24, 26, 0, []), 3), ((0, 0, 0, 0, []), 1), ((0, 0, 0, 64, []), 2), ((26, 80, 26, 64, []), 3), ((2, 0, 0, 0, []), 1), ((2, 1, 0, 0, []), 1), ((16, 78, 4, 0, []), 3), ((18, 24, 4, 0, []), 3), ((2, 0, 0, 0, []), 1), ((2, 1, 0, 0, []), 1), ((16, 78, 5, 0, []), 3), ((18, 24, 5, 0, []), 3), ((28, 0, 0, 0, []), 1)] 0 _ _ _ (by decide +kernel) ?_
  exact (Prod.mk.inj (Option.some.inj h)).2
theorem ok_State_copyCellsFrom_24_78 {l : Launch} {σ : pS} {v : Int} {σ1 : pS} (h : f_State_copyCellsFrom_24_78  σ = some (v, σ1)) : Con l 1 62 [.inr 24, .inr 78] σ v σ1 := Con_mk 2 2 rfl (by decide +kernel) (fun _ H => ok_State_copyCellsFrom_24_78_w H  _ h)
theorem ok_State_copySetsFrom_24_78_w {l : Launch} {rv : Int} {rσ : pS} {G : Nat → pL → List pV → pS → Prop} (H : px_R l 1 63 rv rσ G) : ∀ (σ : pS), f_State_copySetsFrom_24_78  σ = some (rv, rσ) → G 0 [some (.inr 24), some (.inr 78)] [] σ := by
  intro  σ h
  unfold f_State_copySetsFrom_24_78 at h
  refine H [((2, 1, 0, 0, []), 1), ((17, 78, 81, 0, []), 3), ((0, 0, 0, 0, []), 1), ((2, 0, 0, 0, []), 1), ((17, 24, 27, 0, []), 3), ((0, 0, 0, 0, []), 1), ((0, 0, 0, 20, []), 2), ((26, 81, 27, 20, []), 3), ((2, 0, 0, 0, []), 1), ((2, 1, 0, 0, []), 1), ((16, 78, 3, 0, []), 3), ((18, 24, 3, 0, []), 3), ((28, 0, 0, 0, []), 1)] 0 _ _ _ (by decide +kernel) ?_
  exact (Prod.mk.inj (Option.some.inj h)).2
theorem ok_State_copySetsFrom_24_78 {l : Launch} {σ : pS} {v : Int} {σ1 : pS} (h : f_State_copySetsFrom_24_78  σ = some (v, σ1)) : Con l 1 63 [.inr 24, .inr 78] σ v σ1 := Con_mk 2 2 rfl (by decide +kernel) (fun _ H => ok_State_copySetsFrom_24_78_w H  _ h)
theorem ok_X_undo_0_w {l : Launch} {rv : Int} {rσ : pS} {G : Nat → pL → List pV → pS → Prop} (H : px_R l 2 130 rv rσ G) : ∀ (σ : pS), f_X_undo_0  σ = some (rv, rσ) → G 0 [some (.inr 0)] [] σ := by
  intro  σ h
  unfold f_X_undo_0 at h
  refine H [((2, 0, 0, 0, []), 1), ((16, 0, 9, 0, []), 3), ((14, 1, 9, 0, []), 3), ((0, 0, 0, 0, []), 1), ((27, 1, 0, 0, []), 1)] 0 _ _ _ (by decide +kernel) ?_
  rcases px_ite h with ⟨c1, h⟩ | ⟨c1, h⟩
  · refine And.intro (fun hp => absurd c1 hp) (fun _ => ?_)
    refine And.intro (show (0 : Int) ≤ 0 ∧ (0 : Int) ≤ 1 from by decide) ?_
    exact Prod.mk.inj (Option.some.inj h)
  · refine And.intro (fun _ => ?_) (fun hn => absurd c1 hn)
    refine H [((2, 0, 0, 0, []), 1), ((17, 0, 3, 0, []), 3), ((17, 3, 24, 0, []), 3), ((2, 0, 0, 0, []), 1), ((17, 0, 78, 0, []), 3), ((23, 62, 1, 0, [(0, 24)]), 3), ((2, 0, 0, 0, []), 1), ((16, 0, 10, 0, []), 3), ((14, 1, 44, 0, []), 3), ((2, 0, 0, 0, []), 1), ((17, 0, 3, 0, []), 3), ((17, 3, 24, 0, []), 3), ((2, 0, 0, 0, []), 1), ((17, 0, 78, 0, []), 3), ((23, 63, 1, 0, [(0, 24)]), 3), ((0, 0, 0, 1, []), 1), ((27, 1, 0, 0, []), 1)] 9 _ _ _ (by decide +kernel) ?_
    obtain ⟨⟨vq2, σq2⟩, hq2, h⟩ := px_bind h
    dsimp only at h
    refine Exists.intro 1 (Exists.intro vq2 (Exists.intro σq2 (And.intro (Nat.le_of_ble_eq_true rfl) (And.intro (ok_State_copyCellsFrom_24_78 hq2) ?_))))
    rcases px_ite h with ⟨c3, h⟩ | ⟨c3, h⟩
    · refine And.intro (fun hp => absurd c3 hp) (fun _ => ?_)
      obtain ⟨⟨vq4, σq4⟩, hq4, h⟩ := px_bind h
      dsimp only at h
      refine Exists.intro 1 (Exists.intro vq4 (Exists.intro σq4 (And.intro (Nat.le_of_ble_eq_true rfl) (And.intro (ok_State_copySetsFrom_24_78 hq4) ?_))))
      refine And.intro (show (0 : Int) ≤ 1 ∧ (1 : Int) ≤ 1 from by decide) ?_
      exact Prod.mk.inj (Option.some.inj h)
    · refine And.intro (fun _ => ?_) (fun hn => absurd c3 hn)
      refine H [((0, 0, 0, 1, []), 1), ((27, 1, 0, 0, []), 1)] 44 _ _ _ (by decide +kernel) ?_
      refine And.intro (show (0 : Int) ≤ 1 ∧ (1 : Int) ≤ 1 from by decide) ?_
      exact Prod.mk.inj (Option.some.inj h)
theorem ok_X_undo_0 {l : Launch} {σ : pS} {v : Int} {σ1 : pS} (h : f_X_undo_0  σ = some (v, σ1)) : Con l 2 130 [.inr 0] σ v σ1 := Con_mk 1 1 rfl (by decide +kernel) (fun _ H => ok_X_undo_0_w H  _ h)
theorem ok_M_undo_84_p100 {l : Launch} {rv : Int} {rσ : pS} {G : Nat → pL → List pV → pS → Prop} (H : px_R l 0 236 rv rσ G) : ∀ (n : Nat) (a1 : Int) (σ : pS), f_M_undo_84_p100 n a1 σ = some (rv, rσ) → G 100 [some (.inr 84), some (.inl a1)] [] σ := by
  intro n
  induction n with
  | zero =>
    intro a1 σ h
    unfold f_M_undo_84_p100 at h
    cases h
  | succ n ih =>
    intro a1 σ h
    unfold f_M_undo_84_p100 at h
    refine H [((1, 1, 0, 0, []), 1), ((0, 0, 0, 20, []), 2), ((13, 3, 124, 0, []), 3), ((2, 0, 0, 0, []), 1), ((17, 84, 87, 0, []), 3), ((1, 1, 0, 0, []), 1), ((2, 0, 0, 0, []), 1), ((17, 84, 148, 0, []), 3), ((1, 1, 0, 0, []), 1), ((19, 148, 20, 0, []), 1), ((20, 87, 20, 0, []), 1), ((5, 1, 0, 1, []), 3), ((12, 0, 100, 0, []), 3)] 100 _ _ _ (by decide +kernel) ?_
    rcases px_ite h with ⟨c5, h⟩ | ⟨c5, h⟩
    · refine And.intro (fun _ => ?_) (fun hn => absurd c5 hn)
      refine H [((0, 0, 0, 1, []), 1), ((27, 1, 0, 0, []), 1)] 124 _ _ _ (by decide +kernel) ?_
      refine And.intro (show (0 : Int) ≤ 1 ∧ (1 : Int) ≤ 1 from by decide) ?_
      exact Prod.mk.inj (Option.some.inj h)
    · refine And.intro (fun hp => absurd hp c5) (fun _ => ?_)
      obtain ⟨g6, h⟩ := px_gd h
      refine And.intro g6 ?_
      obtain ⟨g7, h⟩ := px_gd h
      refine And.intro g7 ?_
      exact ih _ _ h
theorem ok_M_undo_84_p53 {l : Launch} {rv : Int} {rσ : pS} {G : Nat → pL → List pV → pS → Prop} (H : px_R l 0 236 rv rσ G) : ∀ (n : Nat) (a1 : Int) (σ : pS), f_M_undo_84_p53 n a1 σ = some (rv, rσ) → G 53 [some (.inr 84), some (.inl a1)] [] σ := by
  intro n
  induction n with
  | zero =>
    intro a1 σ h
    unfold f_M_undo_84_p53 at h
    cases h
  | succ n ih =>
    intro a1 σ h
    unfold f_M_undo_84_p53 at h
    refine H [((1, 1, 0, 0, []), 1), ((0, 0, 0, 64, []), 2), ((13, 3, 77, 0, []), 3), ((2, 0, 0, 0, []), 1), ((17, 84, 86, 0, []), 3), ((1, 1, 0, 0, []), 1), ((2, 0, 0, 0, []), 1), ((17, 84, 147, 0, []), 3), ((1, 1, 0, 0, []), 1), ((19, 147, 64, 0, []), 1), ((20, 86, 64, 0, []), 1), ((5, 1, 0, 1, []), 3), ((12, 0, 53, 0, []), 3)] 53 _ _ _ (by decide +kernel) ?_
    rcases px_ite h with ⟨c3, h⟩ | ⟨c3, h⟩
    · refine And.intro (fun _ => ?_) (fun hn => absurd c3 hn)
      refine H [((2, 0, 0, 0, []), 1), ((16, 84, 89, 0, []), 3), ((2, 0, 0, 0, []), 1), ((16, 84, 5, 0, []), 3), ((13, 0, 90, 0, []), 3), ((0, 0, 0, 1, []), 1), ((27, 1, 0, 0, []), 1)] 77 _ _ _ (by decide +kernel) ?_
      rcases px_ite h with ⟨c4, h⟩ | ⟨c4, h⟩
      · refine And.intro (fun _ => ?_) (fun hn => absurd c4 hn)
        refine H [((2, 0, 0, 0, []), 1), ((2, 0, 0, 0, []), 1), ((16, 84, 90, 0, []), 3), ((18, 84, 3, 0, []), 3), ((0, 0, 0, 0, []), 1), ((3, 1, 0, 0, []), 1)] 90 _ _ _ (by decide +kernel) ?_
        exact ok_M_undo_84_p100 H _ _ _ h
      · refine And.intro (fun hp => absurd hp c4) (fun _ => ?_)
        refine And.intro (show (0 : Int) ≤ 1 ∧ (1 : Int) ≤ 1 from by decide) ?_
        exact Prod.mk.inj (Option.some.inj h)
    · refine And.intro (fun hp => absurd hp c3) (fun _ => ?_)
      obtain ⟨g8, h⟩ := px_gd h
      refine And.intro g8 ?_
      obtain ⟨g9, h⟩ := px_gd h
      refine And.intro g9 ?_
      exact ih _ _ h
theorem ok_M_undo_84_p27 {l : Launch} {rv : Int} {rσ : pS} {G : Nat → pL → List pV → pS → Prop} (H : px_R l 0 236 rv rσ G) : ∀ (n : Nat) (a1 : Int) (σ : pS), f_M_undo_84_p27 n a1 σ = some (rv, rσ) → G 27 [some (.inr 84), some (.inl a1)] [] σ := by
  intro n
  induction n with
  | zero =>
    intro a1 σ h
    unfold f_M_undo_84_p27 at h
    cases h
  | succ n ih =>
    intro a1 σ h
    unfold f_M_undo_84_p27 at h
    refine H [((1, 1, 0, 0, []), 1), ((0, 0, 0, 8, []), 2), ((13, 3, 51, 0, []), 3), ((2, 0, 0, 0, []), 1), ((17, 84, 85, 0, []), 3), ((1, 1, 0, 0, []), 1), ((2, 0, 0, 0, []), 1), ((17, 84, 146, 0, []), 3), ((1, 1, 0, 0, []), 1), ((19, 146, 8, 0, []), 1), ((20, 85, 8, 0, []), 1), ((5, 1, 0, 1, []), 3), ((12, 0, 27, 0, []), 3)] 27 _ _ _ (by decide +kernel) ?_
    rcases px_ite h with ⟨c2, h⟩ | ⟨c2, h⟩
    · refine And.intro (fun _ => ?_) (fun hn => absurd c2 hn)
      refine H [((0, 0, 0, 0, []), 1), ((3, 1, 0, 0, []), 1)] 51 _ _ _ (by decide +kernel) ?_
      exact ok_M_undo_84_p53 H _ _ _ h
    · refine And.intro (fun hp => absurd hp c2) (fun _ => ?_)
      obtain ⟨g10, h⟩ := px_gd h
      refine And.intro g10 ?_
      obtain ⟨g11, h⟩ := px_gd h
      refine And.intro g11 ?_
      exact ih _ _ h
theorem ok_M_undo_84_w {l : Launch} {rv : Int} {rσ : pS} {G : Nat → pL → List pV → pS → Prop} (H : px_R l 0 236 rv rσ G) : ∀ (σ : pS), f_M_undo_84  σ = some (rv, rσ) → G 0 [some (.inr 84), none] [] σ := by
  intro  σ h
  unfold f_M_undo_84 at h
  refine H [((2, 0, 0, 0, []), 1), ((16, 84, 88, 0, []), 3), ((14, 1, 9, 0, []), 3), ((0, 0, 0, 0, []), 1), ((27, 1, 0, 0, []), 1)] 0 _ _ _ (by decide +kernel) ?_
  rcases px_ite h with ⟨c1, h⟩ | ⟨c1, h⟩
  · refine And.intro (fun hp => absurd c1 hp) (fun _ => ?_)
    refine And.intro (show (0 : Int) ≤ 0 ∧ (0 : Int) ≤ 1 from by decide) ?_
    exact Prod.mk.inj (Option.some.inj h)
  · refine And.intro (fun _ => ?_) (fun hn => absurd c1 hn)
    refine H [((2, 0, 0, 0, []), 1), ((2, 0, 0, 0, []), 1), ((16, 84, 91, 0, []), 3), ((18, 84, 1, 0, []), 3), ((2, 0, 0, 0, []), 1), ((2, 0, 0, 0, []), 1), ((16, 84, 92, 0, []), 3), ((18, 84, 0, 0, []), 3), ((0, 0, 0, 0, []), 1), ((3, 1, 0, 0, []), 1)] 9 _ _ _ (by decide +kernel) ?_
    exact ok_M_undo_84_p27 H _ _ _ h
theorem ok_M_undo_84 {l : Launch} {σ : pS} {v : Int} {σ1 : pS} (h : f_M_undo_84  σ = some (v, σ1)) : Con l 0 236 [.inr 84] σ v σ1 := Con_mk 1 2 rfl (by decide +kernel) (fun _ H => ok_M_undo_84_w H  _ h)
theorem ok_Prog_ofKind_4_p4 {l : Launch} {rv : Int} {rσ : pS} {G : Nat → pL → List pV → pS → Prop} (H : px_R l 0 133 rv rσ G) : ∀ (n : Nat) (a1 a2 a3 : Int) (σ : pS), f_Prog_ofKind_4_p4 n a1 a2 a3 σ = some (rv, rσ) → G 4 [some (.inr 4), some (.inl a1), some (.inl a2), some (.inl a3)] [] σ := by
  intro n
  induction n with
  | zero =>
    intro a1 a2 a3 σ h
    unfold f_Prog_ofKind_4_p4 at h
    cases h
  | succ n ih =>
    intro a1 a2 a3 σ h
    unfold f_Prog_ofKind_4_p4 at h
    refine H [((1, 3, 0, 0, []), 1), ((2, 0, 0, 0, []), 1), ((16, 4, 11, 0, []), 3), ((13, 3, 31, 0, []), 3), ((2, 0, 0, 0, []), 1), ((17, 4, 5, 0, []), 3), ((1, 3, 0, 0, []), 1), ((19, 5, 20, 0, []), 1), ((1, 1, 0, 0, []), 1), ((13, 1, 25, 0, []), 3), ((5, 2, 0, 1, []), 3), ((5, 3, 0, 1, []), 3), ((12, 0, 4, 0, []), 3)] 4 _ _ _ (by decide +kernel) ?_
    rcases px_ite h with ⟨c1, h⟩ | ⟨c1, h⟩
    · refine And.intro (fun _ => ?_) (fun hn => absurd c1 hn)
      refine H [((1, 2, 0, 0, []), 1), ((27, 0, 0, 0, []), 1)] 31 _ _ _ (by decide +kernel) ?_
      exact Prod.mk.inj (Option.some.inj h)
    · refine And.intro (fun hp => absurd hp c1) (fun _ => ?_)
      obtain ⟨g2, h⟩ := px_gd h
      refine And.intro g2 ?_
      rcases px_ite h with ⟨c3, h⟩ | ⟨c3, h⟩
      · refine And.intro (fun hp => absurd c3 hp) (fun _ => ?_)
        exact ih _ _ _ _ h
      · refine And.intro (fun _ => ?_) (fun hn => absurd c3 hn)
        refine H [((5, 3, 0, 1, []), 3), ((12, 0, 4, 0, []), 3)] 25 _ _ _ (by decide +kernel) ?_
        exact ih _ _ _ _ h
theorem ok_Prog_ofKind_4_w {l : Launch} {rv : Int} {rσ : pS} {G : Nat → pL → List pV → pS → Prop} (H : px_R l 0 133 rv rσ G) : ∀ (a1 : Int) (σ : pS), f_Prog_ofKind_4 a1 σ = some (rv, rσ) → G 0 [some (.inr 4), some (.inl a1), none, none] [] σ := by
  intro a1 σ h
  unfold f_Prog_ofKind_4 at h
  refine H [((0, 0, 0, 0, []), 1), ((3, 2, 0, 0, []), 1), ((0, 0, 0, 0, []), 1), ((3, 3, 0, 0, []), 1)] 0 _ _ _ (by decide +kernel) ?_
  exact ok_Prog_ofKind_4_p4 H _ _ _ _ _ h
theorem ok_Prog_ofKind_4 {l : Launch} {a1 : Int} {σ : pS} {v : Int} {σ1 : pS} (h : f_Prog_ofKind_4 a1 σ = some (v, σ1)) : Con l 0 133 [.inr 4, .inl a1] σ v σ1 := Con_mk 2 4 rfl (by decide +kernel) (fun _ H => ok_Prog_ofKind_4_w H _ _ h)
theorem ok_State_bytesNotZero_24_p4 {l : Launch} {rv : Int} {rσ : pS} {G : Nat → pL → List pV → pS → Prop} (H : px_R l 0 134 rv rσ G) : ∀ (n : Nat) (a1 a2 : Int) (σ : pS), f_State_bytesNotZero_24_p4 n a1 a2 σ = some (rv, rσ) → G 4 [some (.inr 24), some (.inl a1), some (.inl a2)] [] σ := by
  intro n
  induction n with
  | zero =>
    intro a1 a2 σ h
    unfold f_State_bytesNotZero_24_p4 at h
    cases h
  | succ n ih =>
    intro a1 a2 σ h
    unfold f_State_bytesNotZero_24_p4 at h
    refine H [((1, 2, 0, 0, []), 1), ((0, 0, 0, 64, []), 2), ((13, 3, 28, 0, []), 3), ((2, 0, 0, 0, []), 1), ((17, 24, 26, 0, []), 3), ((1, 2, 0, 0, []), 1), ((19, 26, 64, 0, []), 1), ((14, 0, 22, 0, []), 3), ((5, 1, 0, 1, []), 3), ((5, 2, 0, 1, []), 3), ((12, 0, 4, 0, []), 3)] 4 _ _ _ (by decide +kernel) ?_
    rcases px_ite h with ⟨c1, h⟩ | ⟨c1, h⟩
    · refine And.intro (fun _ => ?_) (fun hn => absurd c1 hn)
      refine H [((1, 1, 0, 0, []), 1), ((27, 0, 0, 0, []), 1)] 28 _ _ _ (by decide +kernel) ?_
      exact Prod.mk.inj (Option.some.inj h)
    · refine And.intro (fun hp => absurd hp c1) (fun _ => ?_)
      obtain ⟨g2, h⟩ := px_gd h
      refine And.intro g2 ?_
      rcases px_ite h with ⟨c3, h⟩ | ⟨c3, h⟩
      · refine And.intro (fun _ => ?_) (fun hn => absurd c3 hn)
        refine H [((5, 2, 0, 1, []), 3), ((12, 0, 4, 0, []), 3)] 22 _ _ _ (by decide +kernel) ?_
        exact ih _ _ _ h
      · refine And.intro (fun hp => absurd hp c3) (fun _ => ?_)
        exact ih _ _ _ h
theorem ok_State_bytesNotZero_24_w {l : Launch} {rv : Int} {rσ : pS} {G : Nat → pL → List pV → pS → Prop} (H : px_R l 0 134 rv rσ G) : ∀ (σ : pS), f_State_bytesNotZero_24  σ = some (rv, rσ) → G 0 [some (.inr 24), none, none] [] σ := by
  intro  σ h
  unfold f_State_bytesNotZero_24 at h
  refine H [((0, 0, 0, 0, []), 1), ((3, 1, 0, 0, []), 1), ((0, 0, 0, 0, []), 1), ((3, 2, 0, 0, []), 1)] 0 _ _ _ (by decide +kernel) ?_
  exact ok_State_bytesNotZero_24_p4 H _ _ _ _ h
theorem ok_State_bytesNotZero_24 {l : Launch} {σ : pS} {v : Int} {σ1 : pS} (h : f_State_bytesNotZero_24  σ = some (v, σ1)) : Con l 0 134 [.inr 24] σ v σ1 := Con_mk 1 3 rfl (by decide +kernel) (fun _ H => ok_State_bytesNotZero_24_w H  _ h)
theorem ok_X_count_0_w {l : Launch} {rv : Int} {rσ : pS} {G : Nat → pL → List pV → pS → Prop} (H : px_R l 1 132 rv rσ G) : ∀ (a1 : Int) (σ : pS), f_X_count_0 a1 σ = some (rv, rσ) → G 0 [some (.inr 0), some (.inl a1)] [] σ := by
  intro a1 σ h
  unfold f_X_count_0 at h
  refine H [((1, 1, 0, 0, []), 1), ((15, 0, 201, 0, [(0, 64), (1, 75), (2, 86), (3, 98), (4, 110), (5, 121), (6, 129), (7, 140), (8, 148), (9, 159), (10, 170), (11, 190)]), 63)] 0 _ _ _ (by decide +kernel) ?_
  rcases px_ite h with ⟨c1, h⟩ | ⟨c1, h⟩
  · refine And.intro (fun _ => ?_) (fun hn => absurd c1 hn)
    refine H [((2, 0, 0, 0, []), 1), ((17, 0, 3, 0, []), 3), ((17, 3, 24, 0, []), 3), ((16, 24, 4, 0, []), 3), ((27, 0, 0, 0, []), 1)] 64 _ _ _ (by decide +kernel) ?_
    exact Prod.mk.inj (Option.some.inj h)
  · refine And.intro (fun hp => absurd hp c1) (fun _ => ?_)
    rcases px_ite h with ⟨c2, h⟩ | ⟨c2, h⟩
    · refine And.intro (fun _ => ?_) (fun hn => absurd c2 hn)
      refine H [((2, 0, 0, 0, []), 1), ((17, 0, 3, 0, []), 3), ((17, 3, 4, 0, []), 3), ((16, 4, 11, 0, []), 3), ((27, 0, 0, 0, []), 1)] 75 _ _ _ (by decide +kernel) ?_
      exact Prod.mk.inj (Option.some.inj h)
    · refine And.intro (fun hp => absurd hp c2) (fun _ => ?_)
      rcases px_ite h with ⟨c3, h⟩ | ⟨c3, h⟩
      · refine And.intro (fun _ => ?_) (fun hn => absurd c3 hn)
        refine H [((2, 0, 0, 0, []), 1), ((17, 0, 3, 0, []), 3), ((17, 3, 4, 0, []), 3), ((0, 0, 0, 2, []), 1), ((23, 133, 1, 1, [(0, 4)]), 3), ((27, 0, 0, 0, []), 1)] 86 _ _ _ (by decide +kernel) ?_
        obtain ⟨⟨vq4, σq4⟩, hq4, h⟩ := px_bind h
        dsimp only at h
        refine Exists.intro 0 (Exists.intro vq4 (Exists.intro σq4 (And.intro (Nat.le_of_ble_eq_true rfl) (And.intro (ok_Prog_ofKind_4 hq4) ?_))))
        exact Prod.mk.inj (Option.some.inj h)
      · refine And.intro (fun hp => absurd hp c3) (fun _ => ?_)
        rcases px_ite h with ⟨c5, h⟩ | ⟨c5, h⟩
        · refine And.intro (fun _ => ?_) (fun hn => absurd c5 hn)
          refine H [((2, 0, 0, 0, []), 1), ((17, 0, 3, 0, []), 3), ((17, 3, 4, 0, []), 3), ((0, 0, 0, 3, []), 1), ((23, 133, 1, 1, [(0, 4)]), 3), ((27, 0, 0, 0, []), 1)] 98 _ _ _ (by decide +kernel) ?_
          obtain ⟨⟨vq6, σq6⟩, hq6, h⟩ := px_bind h
          dsimp only at h
          refine Exists.intro 0 (Exists.intro vq6 (Exists.intro σq6 (And.intro (Nat.le_of_ble_eq_true rfl) (And.intro (ok_Prog_ofKind_4 hq6) ?_))))
          exact Prod.mk.inj (Option.some.inj h)
        · refine And.intro (fun hp => absurd hp c5) (fun _ => ?_)
          rcases px_ite h with ⟨c7, h⟩ | ⟨c7, h⟩
          · refine And.intro (fun _ => ?_) (fun hn => absurd c7 hn)
            refine H [((2, 0, 0, 0, []), 1), ((17, 0, 3, 0, []), 3), ((17, 3, 16, 0, []), 3), ((16, 16, 7, 0, []), 3), ((27, 0, 0, 0, []), 1)] 110 _ _ _ (by decide +kernel) ?_
            exact Prod.mk.inj (Option.some.inj h)
          · refine And.intro (fun hp => absurd hp c7) (fun _ => ?_)
            rcases px_ite h with ⟨c8, h⟩ | ⟨c8, h⟩
            · refine And.intro (fun _ => ?_) (fun hn => absurd c8 hn)
              refine H [((2, 0, 0, 0, []), 1), ((17, 0, 1, 0, []), 3), ((16, 1, 1, 0, []), 3), ((27, 0, 0, 0, []), 1)] 121 _ _ _ (by decide +kernel) ?_
              exact Prod.mk.inj (Option.some.inj h)
            · refine And.intro (fun hp => absurd hp c8) (fun _ => ?_)
              rcases px_ite h with ⟨c9, h⟩ | ⟨c9, h⟩
              · refine And.intro (fun _ => ?_) (fun hn => absurd c9 hn)
                refine H [((2, 0, 0, 0, []), 1), ((17, 0, 3, 0, []), 3), ((17, 3, 24, 0, []), 3), ((16, 24, 5, 0, []), 3), ((27, 0, 0, 0, []), 1)] 129 _ _ _ (by decide +kernel) ?_
                exact Prod.mk.inj (Option.some.inj h)
              · refine And.intro (fun hp => absurd hp c9) (fun _ => ?_)
                rcases px_ite h with ⟨c10, h⟩ | ⟨c10, h⟩
                · refine And.intro (fun _ => ?_) (fun hn => absurd c10 hn)
                  refine H [((2, 0, 0, 0, []), 1), ((17, 0, 82, 0, []), 3), ((16, 82, 2, 0, []), 3), ((27, 0, 0, 0, []), 1)] 140 _ _ _ (by decide +kernel) ?_
                  exact Prod.mk.inj (Option.some.inj h)
                · refine And.intro (fun hp => absurd hp c10) (fun _ => ?_)
                  rcases px_ite h with ⟨c11, h⟩ | ⟨c11, h⟩
                  · refine And.intro (fun _ => ?_) (fun hn => absurd c11 hn)
                    refine H [((2, 0, 0, 0, []), 1), ((17, 0, 3, 0, []), 3), ((17, 3, 24, 0, []), 3), ((23, 127, 0, 1, [(0, 24)]), 3), ((27, 0, 0, 0, []), 1)] 148 _ _ _ (by decide +kernel) ?_
                    obtain ⟨⟨vq12, σq12⟩, hq12, h⟩ := px_bind h
                    dsimp only at h
                    refine Exists.intro 0 (Exists.intro vq12 (Exists.intro σq12 (And.intro (Nat.le_of_ble_eq_true rfl) (And.intro (ok_State_withSet_24 hq12) ?_))))
                    exact Prod.mk.inj (Option.some.inj h)
                  · refine And.intro (fun hp => absurd hp c11) (fun _ => ?_)
                    rcases px_ite h with ⟨c13, h⟩ | ⟨c13, h⟩
                    · refine And.intro (fun _ => ?_) (fun hn => absurd c13 hn)
                      refine H [((2, 0, 0, 0, []), 1), ((17, 0, 3, 0, []), 3), ((17, 3, 24, 0, []), 3), ((16, 24, 3, 0, []), 3), ((27, 0, 0, 0, []), 1)] 159 _ _ _ (by decide +kernel) ?_
                      exact Prod.mk.inj (Option.some.inj h)
                    · refine And.intro (fun hp => absurd hp c13) (fun _ => ?_)
                      rcases px_ite h with ⟨c14, h⟩ | ⟨c14, h⟩
                      · refine And.intro (fun _ => ?_) (fun hn => absurd c14 hn)
                        refine H [((2, 0, 0, 0, []), 1), ((17, 0, 82, 0, []), 3), ((17, 82, 83, 0, []), 3), ((0, 0, 0, 0, []), 1), ((19, 83, 2, 0, []), 1), ((2, 0, 0, 0, []), 1), ((17, 0, 82, 0, []), 3), ((17, 82, 83, 0, []), 3), ((0, 0, 0, 1, []), 1), ((19, 83, 2, 0, []), 1), ((6, 0, 0, 0, []), 1), ((27, 0, 0, 0, []), 1)] 170 _ _ _ (by decide +kernel) ?_
                        refine And.intro (show (0 : Int) ≤ 0 ∧ (0 : Int) < 2 from by decide) ?_
                        refine And.intro (show (0 : Int) ≤ 1 ∧ (1 : Int) < 2 from by decide) ?_
                        exact Prod.mk.inj (Option.some.inj h)
                      · refine And.intro (fun hp => absurd hp c14) (fun _ => ?_)
                        rcases px_ite h with ⟨c15, h⟩ | ⟨c15, h⟩
                        · refine And.intro (fun _ => ?_) (fun hn => absurd c15 hn)
                          refine H [((2, 0, 0, 0, []), 1), ((17, 0, 3, 0, []), 3), ((17, 3, 24, 0, []), 3), ((23, 134, 0, 1, [(0, 24)]), 3), ((27, 0, 0, 0, []), 1)] 190 _ _ _ (by decide +kernel) ?_
                          obtain ⟨⟨vq16, σq16⟩, hq16, h⟩ := px_bind h
                          dsimp only at h
                          refine Exists.intro 0 (Exists.intro vq16 (Exists.intro σq16 (And.intro (Nat.le_of_ble_eq_true rfl) (And.intro (ok_State_bytesNotZero_24 hq16) ?_))))
                          exact Prod.mk.inj (Option.some.inj h)
                        · refine And.intro (fun hp => absurd hp c15) (fun _ => ?_)
                          refine H [((0, 0, 0, (-1), []), 1), ((27, 0, 0, 0, []), 1)] 201 _ _ _ (by decide +kernel) ?_
                          exact Prod.mk.inj (Option.some.inj h)
theorem ok_X_count_0 {l : Launch} {a1 : Int} {σ : pS} {v : Int} {σ1 : pS} (h : f_X_count_0 a1 σ = some (v, σ1)) : Con l 1 132 [.inr 0, .inl a1] σ v σ1 := Con_mk 2 2 rfl (by decide +kernel) (fun _ H => ok_X_count_0_w H _ _ h)
theorem ok_M_ofKind_84_p4 {l : Launch} {rv : Int} {rσ : pS} {G : Nat → pL → List pV → pS → Prop} (H : px_R l 0 240 rv rσ G) : ∀ (n : Nat) (a1 a2 a3 : Int) (σ : pS), f_M_ofKind_84_p4 n a1 a2 a3 σ = some (rv, rσ) → G 4 [some (.inr 84), some (.inl a1), some (.inl a2), some (.inl a3)] [] σ := by
  intro n
  induction n with
  | zero =>
    intro a1 a2 a3 σ h
    unfold f_M_ofKind_84_p4 at h
    cases h
  | succ n ih =>
    intro a1 a2 a3 σ h
    unfold f_M_ofKind_84_p4 at h
    refine H [((1, 3, 0, 0, []), 1), ((2, 0, 0, 0, []), 1), ((16, 84, 2, 0, []), 3), ((13, 3, 32, 0, []), 3), ((2, 0, 0, 0, []), 1), ((17, 84, 88, 0, []), 3), ((1, 3, 0, 0, []), 1), ((19, 88, 20, 0, []), 1), ((1, 1, 0, 0, []), 1), ((13, 1, 26, 0, []), 3), ((1, 2, 0, 0, []), 1), ((0, 0, 0, 1, []), 1), ((6, 0, 0, 0, []), 1), ((3, 2, 0, 0, []), 1), ((5, 3, 0, 1, []), 3), ((12, 0, 4, 0, []), 3)] 4 _ _ _ (by decide +kernel) ?_
    rcases px_ite h with ⟨c1, h⟩ | ⟨c1, h⟩
    · refine And.intro (fun _ => ?_) (fun hn => absurd c1 hn)
      refine H [((1, 2, 0, 0, []), 1), ((27, 0, 0, 0, []), 1)] 32 _ _ _ (by decide +kernel) ?_
      exact Prod.mk.inj (Option.some.inj h)
    · refine And.intro (fun hp => absurd hp c1) (fun _ => ?_)
      obtain ⟨g2, h⟩ := px_gd h
      refine And.intro g2 ?_
      rcases px_ite h with ⟨c3, h⟩ | ⟨c3, h⟩
      · refine And.intro (fun hp => absurd c3 hp) (fun _ => ?_)
        exact ih _ _ _ _ h
      · refine And.intro (fun _ => ?_) (fun hn => absurd c3 hn)
        refine H [((5, 3, 0, 1, []), 3), ((12, 0, 4, 0, []), 3)] 26 _ _ _ (by decide +kernel) ?_
        exact ih _ _ _ _ h
theorem ok_M_ofKind_84_w {l : Launch} {rv : Int} {rσ : pS} {G : Nat → pL → List pV → pS → Prop} (H : px_R l 0 240 rv rσ G) : ∀ (a1 : Int) (σ : pS), f_M_ofKind_84 a1 σ = some (rv, rσ) → G 0 [some (.inr 84), some (.inl a1), none, none] [] σ := by
  intro a1 σ h
  unfold f_M_ofKind_84 at h
  refine H [((0, 0, 0, 0, []), 1), ((3, 2, 0, 0, []), 1), ((0, 0, 0, 0, []), 1), ((3, 3, 0, 0, []), 1)] 0 _ _ _ (by decide +kernel) ?_
  exact ok_M_ofKind_84_p4 H _ _ _ _ _ h
theorem ok_M_ofKind_84 {l : Launch} {a1 : Int} {σ : pS} {v : Int} {σ1 : pS} (h : f_M_ofKind_84 a1 σ = some (v, σ1)) : Con l 0 240 [.inr 84, .inl a1] σ v σ1 := Con_mk 2 4 rfl (by decide +kernel) (fun _ H => ok_M_ofKind_84_w H _ _ h)
theorem ok_M_bytesThere_84_p4 {l : Launch} {rv : Int} {rσ : pS} {G : Nat → pL → List pV → pS → Prop} (H : px_R l 0 241 rv rσ G) : ∀ (n : Nat) (a1 a2 : Int) (σ : pS), f_M_bytesThere_84_p4 n a1 a2 σ = some (rv, rσ) → G 4 [some (.inr 84), some (.inl a1), some (.inl a2)] [] σ := by
  intro n
  induction n with
  | zero =>
    intro a1 a2 σ h
    unfold f_M_bytesThere_84_p4 at h
    cases h
  | succ n ih =>
    intro a1 a2 σ h
    unfold f_M_bytesThere_84_p4 at h
    refine H [((1, 2, 0, 0, []), 1), ((0, 0, 0, 64, []), 2), ((13, 3, 29, 0, []), 3), ((2, 0, 0, 0, []), 1), ((17, 84, 86, 0, []), 3), ((1, 2, 0, 0, []), 1), ((19, 86, 64, 0, []), 1), ((14, 0, 23, 0, []), 3), ((1, 1, 0, 0, []), 1), ((0, 0, 0, 1, []), 1), ((6, 0, 0, 0, []), 1), ((3, 1, 0, 0, []), 1), ((5, 2, 0, 1, []), 3), ((12, 0, 4, 0, []), 3)] 4 _ _ _ (by decide +kernel) ?_
    rcases px_ite h with ⟨c1, h⟩ | ⟨c1, h⟩
    · refine And.intro (fun _ => ?_) (fun hn => absurd c1 hn)
      refine H [((1, 1, 0, 0, []), 1), ((27, 0, 0, 0, []), 1)] 29 _ _ _ (by decide +kernel) ?_
      exact Prod.mk.inj (Option.some.inj h)
    · refine And.intro (fun hp => absurd hp c1) (fun _ => ?_)
      obtain ⟨g2, h⟩ := px_gd h
      refine And.intro g2 ?_
      rcases px_ite h with ⟨c3, h⟩ | ⟨c3, h⟩
      · refine And.intro (fun _ => ?_) (fun hn => absurd c3 hn)
        refine H [((5, 2, 0, 1, []), 3), ((12, 0, 4, 0, []), 3)] 23 _ _ _ (by decide +kernel) ?_
        exact ih _ _ _ h
      · refine And.intro (fun hp => absurd hp c3) (fun _ => ?_)
        exact ih _ _ _ h
theorem ok_M_bytesThere_84_w {l : Launch} {rv : Int} {rσ : pS} {G : Nat → pL → List pV → pS → Prop} (H : px_R l 0 241 rv rσ G) : ∀ (σ : pS), f_M_bytesThere_84  σ = some (rv, rσ) → G 0 [some (.inr 84), none, none] [] σ := by
  intro  σ h
  unfold f_M_bytesThere_84 at h
  refine H [((0, 0, 0, 0, []), 1), ((3, 1, 0, 0, []), 1), ((0, 0, 0, 0, []), 1), ((3, 2, 0, 0, []), 1)] 0 _ _ _ (by decide +kernel) ?_
  exact ok_M_bytesThere_84_p4 H _ _ _ _ h
theorem ok_M_bytesThere_84 {l : Launch} {σ : pS} {v : Int} {σ1 : pS} (h : f_M_bytesThere_84  σ = some (v, σ1)) : Con l 0 241 [.inr 84] σ v σ1 := Con_mk 1 3 rfl (by decide +kernel) (fun _ H => ok_M_bytesThere_84_w H  _ h)
theorem ok_M_count_84_w {l : Launch} {rv : Int} {rσ : pS} {G : Nat → pL → List pV → pS → Prop} (H : px_R l 1 239 rv rσ G) : ∀ (a1 : Int) (σ : pS), f_M_count_84 a1 σ = some (rv, rσ) → G 0 [some (.inr 84), some (.inl a1)] [] σ := by
  intro a1 σ h
  unfold f_M_count_84 at h
  refine H [((1, 1, 0, 0, []), 1), ((15, 0, 135, 0, [(0, 64), (1, 69), (2, 74), (3, 80), (4, 86), (5, 91), (6, 96), (7, 101), (8, 106), (9, 111), (10, 116), (11, 130)]), 63)] 0 _ _ _ (by decide +kernel) ?_
  rcases px_ite h with ⟨c1, h⟩ | ⟨c1, h⟩
  · refine And.intro (fun _ => ?_) (fun hn => absurd c1 hn)
    refine H [((2, 0, 0, 0, []), 1), ((16, 84, 1, 0, []), 3), ((27, 0, 0, 0, []), 1)] 64 _ _ _ (by decide +kernel) ?_
    exact Prod.mk.inj (Option.some.inj h)
  · refine And.intro (fun hp => absurd hp c1) (fun _ => ?_)
    rcases px_ite h with ⟨c2, h⟩ | ⟨c2, h⟩
    · refine And.intro (fun _ => ?_) (fun hn => absurd c2 hn)
      refine H [((2, 0, 0, 0, []), 1), ((16, 84, 2, 0, []), 3), ((27, 0, 0, 0, []), 1)] 69 _ _ _ (by decide +kernel) ?_
      exact Prod.mk.inj (Option.some.inj h)
    · refine And.intro (fun hp => absurd hp c2) (fun _ => ?_)
      rcases px_ite h with ⟨c3, h⟩ | ⟨c3, h⟩
      · refine And.intro (fun _ => ?_) (fun hn => absurd c3 hn)
        refine H [((2, 0, 0, 0, []), 1), ((0, 0, 0, 2, []), 1), ((23, 240, 1, 1, [(0, 84)]), 3), ((27, 0, 0, 0, []), 1)] 74 _ _ _ (by decide +kernel) ?_
        obtain ⟨⟨vq4, σq4⟩, hq4, h⟩ := px_bind h
        dsimp only at h
        refine Exists.intro 0 (Exists.intro vq4 (Exists.intro σq4 (And.intro (Nat.le_of_ble_eq_true rfl) (And.intro (ok_M_ofKind_84 hq4) ?_))))
        exact Prod.mk.inj (Option.some.inj h)
      · refine And.intro (fun hp => absurd hp c3) (fun _ => ?_)
        rcases px_ite h with ⟨c5, h⟩ | ⟨c5, h⟩
        · refine And.intro (fun _ => ?_) (fun hn => absurd c5 hn)
          refine H [((2, 0, 0, 0, []), 1), ((0, 0, 0, 3, []), 1), ((23, 240, 1, 1, [(0, 84)]), 3), ((27, 0, 0, 0, []), 1)] 80 _ _ _ (by decide +kernel) ?_
          obtain ⟨⟨vq6, σq6⟩, hq6, h⟩ := px_bind h
          dsimp only at h
          refine Exists.intro 0 (Exists.intro vq6 (Exists.intro σq6 (And.intro (Nat.le_of_ble_eq_true rfl) (And.intro (ok_M_ofKind_84 hq6) ?_))))
          exact Prod.mk.inj (Option.some.inj h)
        · refine And.intro (fun hp => absurd hp c5) (fun _ => ?_)
          rcases px_ite h with ⟨c7, h⟩ | ⟨c7, h⟩
          · refine And.intro (fun _ => ?_) (fun hn => absurd c7 hn)
            refine H [((2, 0, 0, 0, []), 1), ((16, 84, 27, 0, []), 3), ((27, 0, 0, 0, []), 1)] 86 _ _ _ (by decide +kernel) ?_
            exact Prod.mk.inj (Option.some.inj h)
          · refine And.intro (fun hp => absurd hp c7) (fun _ => ?_)
            rcases px_ite h with ⟨c8, h⟩ | ⟨c8, h⟩
            · refine And.intro (fun _ => ?_) (fun hn => absurd c8 hn)
              refine H [((2, 0, 0, 0, []), 1), ((16, 84, 18, 0, []), 3), ((27, 0, 0, 0, []), 1)] 91 _ _ _ (by decide +kernel) ?_
              exact Prod.mk.inj (Option.some.inj h)
            · refine And.intro (fun hp => absurd hp c8) (fun _ => ?_)
              rcases px_ite h with ⟨c9, h⟩ | ⟨c9, h⟩
              · refine And.intro (fun _ => ?_) (fun hn => absurd c9 hn)
                refine H [((2, 0, 0, 0, []), 1), ((16, 84, 0, 0, []), 3), ((27, 0, 0, 0, []), 1)] 96 _ _ _ (by decide +kernel) ?_
                exact Prod.mk.inj (Option.some.inj h)
              · refine And.intro (fun hp => absurd hp c9) (fun _ => ?_)
                rcases px_ite h with ⟨c10, h⟩ | ⟨c10, h⟩
                · refine And.intro (fun _ => ?_) (fun hn => absurd c10 hn)
                  refine H [((2, 0, 0, 0, []), 1), ((16, 84, 4, 0, []), 3), ((27, 0, 0, 0, []), 1)] 101 _ _ _ (by decide +kernel) ?_
                  exact Prod.mk.inj (Option.some.inj h)
                · refine And.intro (fun hp => absurd hp c10) (fun _ => ?_)
                  rcases px_ite h with ⟨c11, h⟩ | ⟨c11, h⟩
                  · refine And.intro (fun _ => ?_) (fun hn => absurd c11 hn)
                    refine H [((2, 0, 0, 0, []), 1), ((23, 233, 0, 1, [(0, 84)]), 3), ((27, 0, 0, 0, []), 1)] 106 _ _ _ (by decide +kernel) ?_
                    obtain ⟨⟨vq12, σq12⟩, hq12, h⟩ := px_bind h
                    dsimp only at h
                    refine Exists.intro 0 (Exists.intro vq12 (Exists.intro σq12 (And.intro (Nat.le_of_ble_eq_true rfl) (And.intro (ok_M_withSet_84 hq12) ?_))))
                    exact Prod.mk.inj (Option.some.inj h)
                  · refine And.intro (fun hp => absurd hp c11) (fun _ => ?_)
                    rcases px_ite h with ⟨c13, h⟩ | ⟨c13, h⟩
                    · refine And.intro (fun _ => ?_) (fun hn => absurd c13 hn)
                      refine H [((2, 0, 0, 0, []), 1), ((16, 84, 3, 0, []), 3), ((27, 0, 0, 0, []), 1)] 111 _ _ _ (by decide +kernel) ?_
                      exact Prod.mk.inj (Option.some.inj h)
                    · refine And.intro (fun hp => absurd hp c13) (fun _ => ?_)
                      rcases px_ite h with ⟨c14, h⟩ | ⟨c14, h⟩
                      · refine And.intro (fun _ => ?_) (fun hn => absurd c14 hn)
                        refine H [((2, 0, 0, 0, []), 1), ((17, 84, 145, 0, []), 3), ((0, 0, 0, 0, []), 1), ((19, 145, 2, 0, []), 1), ((2, 0, 0, 0, []), 1), ((17, 84, 145, 0, []), 3), ((0, 0, 0, 1, []), 1), ((19, 145, 2, 0, []), 1), ((6, 0, 0, 0, []), 1), ((27, 0, 0, 0, []), 1)] 116 _ _ _ (by decide +kernel) ?_
                        refine And.intro (show (0 : Int) ≤ 0 ∧ (0 : Int) < 2 from by decide) ?_
                        refine And.intro (show (0 : Int) ≤ 1 ∧ (1 : Int) < 2 from by decide) ?_
                        exact Prod.mk.inj (Option.some.inj h)
                      · refine And.intro (fun hp => absurd hp c14) (fun _ => ?_)
                        rcases px_ite h with ⟨c15, h⟩ | ⟨c15, h⟩
                        · refine And.intro (fun _ => ?_) (fun hn => absurd c15 hn)
                          refine H [((2, 0, 0, 0, []), 1), ((23, 241, 0, 1, [(0, 84)]), 3), ((27, 0, 0, 0, []), 1)] 130 _ _ _ (by decide +kernel) ?_
                          obtain ⟨⟨vq16, σq16⟩, hq16, h⟩ := px_bind h
                          dsimp only at h
                          refine Exists.intro 0 (Exists.intro vq16 (Exists.intro σq16 (And.intro (Nat.le_of_ble_eq_true rfl) (And.intro (ok_M_bytesThere_84 hq16) ?_))))
                          exact Prod.mk.inj (Option.some.inj h)
                        · refine And.intro (fun hp => absurd hp c15) (fun _ => ?_)
                          refine H [((0, 0, 0, (-1), []), 1), ((27, 0, 0, 0, []), 1)] 135 _ _ _ (by decide +kernel) ?_
                          exact Prod.mk.inj (Option.some.inj h)
theorem ok_M_count_84 {l : Launch} {a1 : Int} {σ : pS} {v : Int} {σ1 : pS} (h : f_M_count_84 a1 σ = some (v, σ1)) : Con l 1 239 [.inr 84, .inl a1] σ v σ1 := Con_mk 2 2 rfl (by decide +kernel) (fun _ H => ok_M_count_84_w H _ _ h)
