theorem ok_Law_reckon_16_p270 {l : Launch} {rv : Int} {rσ : pS} {G : Nat → pL → List pV → pS → Prop} (H : px_R l 1 89 rv rσ G) : ∀ (a3 : Int) (σ : pS), f_Law_reckon_16_p270 a3 σ = some (rv, rσ) → G 270 [some (.inr 16), none, none, some (.inl a3), none, none, none] [] σ := by
  intro a3 σ h
  unfold f_Law_reckon_16_p270 at h
  refine H [((1, 3, 0, 0, []), 1), ((14, 5, 283, 0, []), 3), ((2, 0, 0, 0, []), 1), ((17, 16, 23, 0, []), 3), ((0, 0, 0, 0, []), 1), ((19, 23, 64, 0, []), 1), ((12, 0, 284, 0, []), 3), ((27, 0, 0, 0, []), 1)] 270 _ _ _ (by decide +kernel) ?_
  rcases px_ite h with ⟨c2, h⟩ | ⟨c2, h⟩
  · refine And.intro (fun _ => ?_) (fun hn => absurd c2 hn)
    refine H [((0, 0, 0, 0, []), 1), ((27, 0, 0, 0, []), 1)] 283 _ _ _ (by decide +kernel) ?_
    exact Prod.mk.inj (Option.some.inj h)
  · refine And.intro (fun hp => absurd hp c2) (fun _ => ?_)
    refine And.intro (show (0 : Int) ≤ 0 ∧ (0 : Int) < 64 from by decide) ?_
    exact Prod.mk.inj (Option.some.inj h)
theorem ok_Law_reckon_16_p55 {l : Launch} {rv : Int} {rσ : pS} {G : Nat → pL → List pV → pS → Prop} (H : px_R l 1 89 rv rσ G) {k_8 : Int → Int → Int → Int → pS → Option (Int × pS)} (hk_8 : ∀ (a2 a3 a4 a5 : Int) (σ : pS), k_8 a2 a3 a4 a5 σ = some (rv, rσ) → G 8 [some (.inr 16), none, some (.inl a2), some (.inl a3), some (.inl a4), some (.inl a5), none] [] σ) : ∀ (a2 a3 a4 a5 a6 : Int) (σ : pS), f_Law_reckon_16_p55 k_8 a2 a3 a4 a5 a6 σ = some (rv, rσ) → G 55 [some (.inr 16), none, some (.inl a2), some (.inl a3), some (.inl a4), some (.inl a5), some (.inl a6)] [] σ := by
  intro a2 a3 a4 a5 a6 σ h
  unfold f_Law_reckon_16_p55 at h
  refine H [((1, 3, 0, 0, []), 1), ((0, 0, 0, 64, []), 2), ((13, 2, 63, 0, []), 3), ((0, 0, 0, 0, []), 1), ((27, 0, 0, 0, []), 1)] 55 _ _ _ (by decide +kernel) ?_
  rcases px_ite h with ⟨c7, h⟩ | ⟨c7, h⟩
  · refine And.intro (fun _ => ?_) (fun hn => absurd c7 hn)
    refine H [((2, 0, 0, 0, []), 1), ((17, 16, 23, 0, []), 3), ((1, 3, 0, 0, []), 1), ((1, 6, 0, 0, []), 2), ((0, 0, 0, 48, []), 2), ((13, 1, 85, 0, []), 3), ((2, 0, 0, 0, []), 1), ((17, 16, 21, 0, []), 3), ((1, 5, 0, 0, []), 2), ((19, 21, 240, 0, []), 1), ((12, 0, 97, 0, []), 3), ((20, 23, 64, 0, []), 1), ((5, 3, 0, 1, []), 3), ((12, 0, 264, 0, []), 3), ((5, 5, 0, 1, []), 3), ((12, 0, 8, 0, []), 3), ((29, 6, 0, 0, []), 0)] 63 _ _ _ (by decide +kernel) ?_
    rcases px_ite h with ⟨c8, h⟩ | ⟨c8, h⟩
    · refine And.intro (fun hp => absurd c8 hp) (fun _ => ?_)
      obtain ⟨g12, h⟩ := px_gd h
      refine And.intro g12 ?_
      obtain ⟨g13, h⟩ := px_gd h
      refine And.intro g13 ?_
      exact hk_8 _ _ _ _ _ h
    · refine And.intro (fun _ => ?_) (fun hn => absurd c8 hn)
      refine H [((2, 0, 0, 0, []), 1), ((17, 16, 22, 0, []), 3), ((2, 0, 0, 0, []), 1), ((17, 16, 21, 0, []), 3), ((1, 5, 0, 0, []), 2), ((19, 21, 240, 0, []), 1), ((19, 22, 7, 0, []), 1), ((20, 23, 64, 0, []), 1), ((5, 3, 0, 1, []), 3), ((12, 0, 264, 0, []), 3), ((5, 5, 0, 1, []), 3), ((12, 0, 8, 0, []), 3), ((29, 6, 0, 0, []), 0)] 85 _ _ _ (by decide +kernel) ?_
      obtain ⟨g9, h⟩ := px_gd h
      refine And.intro g9 ?_
      obtain ⟨g10, h⟩ := px_gd h
      refine And.intro g10 ?_
      obtain ⟨g11, h⟩ := px_gd h
      refine And.intro g11 ?_
      exact hk_8 _ _ _ _ _ h
  · refine And.intro (fun hp => absurd hp c7) (fun _ => ?_)
    exact Prod.mk.inj (Option.some.inj h)
theorem ok_Law_reckon_16_p181 {l : Launch} {rv : Int} {rσ : pS} {G : Nat → pL → List pV → pS → Prop} (H : px_R l 1 89 rv rσ G) {k_8 : Int → Int → Int → Int → pS → Option (Int × pS)} (hk_8 : ∀ (a2 a3 a4 a5 : Int) (σ : pS), k_8 a2 a3 a4 a5 σ = some (rv, rσ) → G 8 [some (.inr 16), none, some (.inl a2), some (.inl a3), some (.inl a4), some (.inl a5), none] [] σ) : ∀ (a2 a3 a4 a5 s0 s1 : Int) (σ : pS), f_Law_reckon_16_p181 k_8 a2 a3 a4 a5 s0 s1 σ = some (rv, rσ) → G 181 [some (.inr 16), none, some (.inl a2), some (.inl a3), some (.inl a4), some (.inl a5), none] [.inl s0, .inl s1] σ := by
  intro a2 a3 a4 a5 s0 s1 σ h
  unfold f_Law_reckon_16_p181 at h
  refine H [((13, 1, 196, 0, []), 3), ((2, 0, 0, 0, []), 1), ((17, 16, 21, 0, []), 3), ((1, 5, 0, 0, []), 2), ((19, 21, 240, 0, []), 1), ((3, 4, 0, 0, []), 2), ((12, 0, 264, 0, []), 3), ((5, 5, 0, 1, []), 3), ((12, 0, 8, 0, []), 3)] 181 _ _ _ (by decide +kernel) ?_
  rcases px_ite h with ⟨c21, h⟩ | ⟨c21, h⟩
  · refine And.intro (fun hp => absurd c21 hp) (fun _ => ?_)
    obtain ⟨g22, h⟩ := px_gd h
    refine And.intro g22 ?_
    exact hk_8 _ _ _ _ _ h
  · refine And.intro (fun _ => ?_) (fun hn => absurd c21 hn)
    refine H [((5, 3, 0, (-1), []), 3), ((12, 0, 264, 0, []), 3), ((5, 5, 0, 1, []), 3), ((12, 0, 8, 0, []), 3)] 196 _ _ _ (by decide +kernel) ?_
    exact hk_8 _ _ _ _ _ h
theorem ok_Law_reckon_16_p169 {l : Launch} {rv : Int} {rσ : pS} {G : Nat → pL → List pV → pS → Prop} (H : px_R l 1 89 rv rσ G) {k_8 : Int → Int → Int → Int → pS → Option (Int × pS)} (hk_8 : ∀ (a2 a3 a4 a5 : Int) (σ : pS), k_8 a2 a3 a4 a5 σ = some (rv, rσ) → G 8 [some (.inr 16), none, some (.inl a2), some (.inl a3), some (.inl a4), some (.inl a5), none] [] σ) : ∀ (a2 a3 a4 a5 a6 s0 : Int) (σ : pS), f_Law_reckon_16_p169 k_8 a2 a3 a4 a5 a6 s0 σ = some (rv, rσ) → G 169 [some (.inr 16), none, some (.inl a2), some (.inl a3), some (.inl a4), some (.inl a5), some (.inl a6)] [.inl s0] σ := by
  intro a2 a3 a4 a5 a6 s0 σ h
  unfold f_Law_reckon_16_p169 at h
  refine H [((1, 6, 0, 0, []), 2), ((0, 0, 0, 124, []), 2), ((13, 1, 180, 0, []), 3), ((0, 0, 0, 1, []), 1), ((12, 0, 181, 0, []), 3), ((29, 6, 0, 0, []), 0)] 169 _ _ _ (by decide +kernel) ?_
  rcases px_ite h with ⟨c20, h⟩ | ⟨c20, h⟩
  · refine And.intro (fun hp => absurd c20 hp) (fun _ => ?_)
    exact ok_Law_reckon_16_p181 H hk_8 _ _ _ _ _ _ _ h
  · refine And.intro (fun _ => ?_) (fun hn => absurd c20 hn)
    refine H [((0, 0, 0, 0, []), 1), ((29, 6, 0, 0, []), 0)] 180 _ _ _ (by decide +kernel) ?_
    exact ok_Law_reckon_16_p181 H hk_8 _ _ _ _ _ _ _ h
theorem ok_Law_reckon_16_p153 {l : Launch} {rv : Int} {rσ : pS} {G : Nat → pL → List pV → pS → Prop} (H : px_R l 1 89 rv rσ G) {k_8 : Int → Int → Int → Int → pS → Option (Int × pS)} (hk_8 : ∀ (a2 a3 a4 a5 : Int) (σ : pS), k_8 a2 a3 a4 a5 σ = some (rv, rσ) → G 8 [some (.inr 16), none, some (.inl a2), some (.inl a3), some (.inl a4), some (.inl a5), none] [] σ) : ∀ (a2 a3 a4 a5 a6 : Int) (σ : pS), f_Law_reckon_16_p153 k_8 a2 a3 a4 a5 a6 σ = some (rv, rσ) → G 153 [some (.inr 16), none, some (.inl a2), some (.inl a3), some (.inl a4), some (.inl a5), some (.inl a6)] [] σ := by
  intro a2 a3 a4 a5 a6 σ h
  unfold f_Law_reckon_16_p153 at h
  refine H [((2, 0, 0, 0, []), 1), ((17, 16, 23, 0, []), 3), ((1, 3, 0, 0, []), 1), ((0, 0, 0, 1, []), 1), ((6, 1, 0, 0, []), 1), ((19, 23, 64, 0, []), 1), ((14, 0, 168, 0, []), 3), ((0, 0, 0, 1, []), 1), ((12, 0, 169, 0, []), 3)] 153 _ _ _ (by decide +kernel) ?_
  obtain ⟨g18, h⟩ := px_gd h
  refine And.intro g18 ?_
  rcases px_ite h with ⟨c19, h⟩ | ⟨c19, h⟩
  · refine And.intro (fun _ => ?_) (fun hn => absurd c19 hn)
    refine H [((0, 0, 0, 0, []), 1)] 168 _ _ _ (by decide +kernel) ?_
    exact ok_Law_reckon_16_p169 H hk_8 _ _ _ _ _ _ _ h
  · refine And.intro (fun hp => absurd hp c19) (fun _ => ?_)
    exact ok_Law_reckon_16_p169 H hk_8 _ _ _ _ _ _ _ h
theorem ok_Law_reckon_16_p234 {l : Launch} {rv : Int} {rσ : pS} {G : Nat → pL → List pV → pS → Prop} (H : px_R l 1 89 rv rσ G) {k_8 : Int → Int → Int → Int → pS → Option (Int × pS)} (hk_8 : ∀ (a2 a3 a4 a5 : Int) (σ : pS), k_8 a2 a3 a4 a5 σ = some (rv, rσ) → G 8 [some (.inr 16), none, some (.inl a2), some (.inl a3), some (.inl a4), some (.inl a5), none] [] σ) : ∀ (a2 a3 a4 a5 a6 : Int) (σ : pS), f_Law_reckon_16_p234 k_8 a2 a3 a4 a5 a6 σ = some (rv, rσ) → G 234 [some (.inr 16), none, some (.inl a2), some (.inl a3), some (.inl a4), some (.inl a5), some (.inl a6)] [] σ := by
  intro a2 a3 a4 a5 a6 σ h
  unfold f_Law_reckon_16_p234 at h
  refine H [((5, 3, 0, (-1), []), 3), ((2, 0, 0, 0, []), 1), ((17, 16, 23, 0, []), 3), ((1, 3, 0, 0, []), 1), ((0, 0, 0, 1, []), 1), ((6, 1, 0, 0, []), 1), ((1, 6, 0, 0, []), 2), ((2, 0, 0, 0, []), 1), ((17, 16, 23, 0, []), 3), ((1, 3, 0, 0, []), 1), ((0, 0, 0, 1, []), 1), ((6, 1, 0, 0, []), 1), ((19, 23, 64, 0, []), 1), ((2, 0, 0, 0, []), 1), ((17, 16, 23, 0, []), 3), ((1, 3, 0, 0, []), 1), ((19, 23, 64, 0, []), 1), ((24, 90, 3, 1, []), 3), ((20, 23, 64, 0, []), 1), ((5, 5, 0, 1, []), 3), ((12, 0, 8, 0, []), 3), ((29, 6, 0, 0, []), 0)] 234 _ _ _ (by decide +kernel) ?_
  obtain ⟨g27, h⟩ := px_gd h
  refine And.intro g27 ?_
  obtain ⟨g28, h⟩ := px_gd h
  refine And.intro g28 ?_
  obtain ⟨⟨vq29, σq29⟩, hq29, h⟩ := px_bind h
  dsimp only at h
  refine Exists.intro 0 (Exists.intro vq29 (Exists.intro σq29 (And.intro (Nat.le_of_ble_eq_true rfl) (And.intro (ok_Law_joined hq29) ?_))))
  obtain ⟨g30, h⟩ := px_gd h
  refine And.intro g30 ?_
  exact hk_8 _ _ _ _ _ h
theorem ok_Law_reckon_16_p8 {l : Launch} {rv : Int} {rσ : pS} {G : Nat → pL → List pV → pS → Prop} (H : px_R l 1 89 rv rσ G) : ∀ (n : Nat) (a2 a3 a4 a5 : Int) (σ : pS), f_Law_reckon_16_p8 n a2 a3 a4 a5 σ = some (rv, rσ) → G 8 [some (.inr 16), none, some (.inl a2), some (.inl a3), some (.inl a4), some (.inl a5), none] [] σ := by
  intro n
  induction n with
  | zero =>
    intro a2 a3 a4 a5 σ h
    unfold f_Law_reckon_16_p8 at h
    cases h
  | succ n ih =>
    intro a2 a3 a4 a5 σ h
    unfold f_Law_reckon_16_p8 at h
    refine H [((1, 5, 0, 0, []), 2), ((1, 2, 0, 0, []), 1), ((13, 3, 270, 0, []), 3), ((1, 5, 0, 0, []), 2), ((0, 0, 0, 240, []), 3), ((13, 3, 270, 0, []), 3), ((1, 5, 0, 0, []), 2), ((1, 4, 0, 0, []), 2), ((13, 3, 32, 0, []), 3), ((12, 0, 264, 0, []), 3), ((5, 5, 0, 1, []), 3), ((12, 0, 8, 0, []), 3)] 8 _ _ _ (by decide +kernel) ?_
    rcases px_ite h with ⟨c1, h⟩ | ⟨c1, h⟩
    · refine And.intro (fun _ => ?_) (fun hn => absurd c1 hn)
      refine H [((29, 2, 0, 0, []), 0), ((29, 4, 0, 0, []), 0), ((29, 5, 0, 0, []), 0)] 270 _ _ _ (by decide +kernel) ?_
      exact ok_Law_reckon_16_p270 H _ _ h
    · refine And.intro (fun hp => absurd hp c1) (fun _ => ?_)
      rcases px_ite h with ⟨c3, h⟩ | ⟨c3, h⟩
      · refine And.intro (fun _ => ?_) (fun hn => absurd c3 hn)
        refine H [((29, 2, 0, 0, []), 0), ((29, 4, 0, 0, []), 0), ((29, 5, 0, 0, []), 0)] 270 _ _ _ (by decide +kernel) ?_
        exact ok_Law_reckon_16_p270 H _ _ h
      · refine And.intro (fun hp => absurd hp c3) (fun _ => ?_)
        rcases px_ite h with ⟨c4, h⟩ | ⟨c4, h⟩
        · refine And.intro (fun _ => ?_) (fun hn => absurd c4 hn)
          refine H [((2, 0, 0, 0, []), 1), ((17, 16, 20, 0, []), 3), ((1, 5, 0, 0, []), 2), ((19, 20, 240, 0, []), 1), ((3, 6, 0, 0, []), 2), ((1, 6, 0, 0, []), 2), ((0, 0, 0, 48, []), 2), ((13, 0, 55, 0, []), 3), ((1, 6, 0, 0, []), 2), ((0, 0, 0, 97, []), 2), ((13, 1, 104, 0, []), 3)] 32 _ _ _ (by decide +kernel) ?_
          obtain ⟨g5, h⟩ := px_gd h
          refine And.intro g5 ?_
          rcases px_ite h with ⟨c6, h⟩ | ⟨c6, h⟩
          · refine And.intro (fun _ => ?_) (fun hn => absurd c6 hn)
            exact ok_Law_reckon_16_p55 H ih _ _ _ _ _ _ h
          · refine And.intro (fun hp => absurd hp c6) (fun _ => ?_)
            rcases px_ite h with ⟨c14, h⟩ | ⟨c14, h⟩
            · refine And.intro (fun hp => absurd c14 hp) (fun _ => ?_)
              exact ok_Law_reckon_16_p55 H ih _ _ _ _ _ _ h
            · refine And.intro (fun _ => ?_) (fun hn => absurd c14 hn)
              refine H [((1, 3, 0, 0, []), 1), ((0, 0, 0, 1, []), 1), ((13, 3, 111, 0, []), 3), ((0, 0, 0, 0, []), 1), ((27, 0, 0, 0, []), 1)] 104 _ _ _ (by decide +kernel) ?_
              rcases px_ite h with ⟨c15, h⟩ | ⟨c15, h⟩
              · refine And.intro (fun _ => ?_) (fun hn => absurd c15 hn)
                refine H [((1, 6, 0, 0, []), 2), ((0, 0, 0, 33, []), 2), ((13, 1, 139, 0, []), 3), ((2, 0, 0, 0, []), 1), ((17, 16, 23, 0, []), 3), ((1, 3, 0, 0, []), 1), ((0, 0, 0, 1, []), 1), ((6, 1, 0, 0, []), 1), ((0, 0, 0, 1, []), 1), ((2, 0, 0, 0, []), 1), ((17, 16, 23, 0, []), 3), ((1, 3, 0, 0, []), 1), ((0, 0, 0, 1, []), 1), ((6, 1, 0, 0, []), 1), ((19, 23, 64, 0, []), 1), ((6, 1, 0, 0, []), 1), ((20, 23, 64, 0, []), 1), ((12, 0, 264, 0, []), 3), ((5, 5, 0, 1, []), 3), ((12, 0, 8, 0, []), 3), ((29, 6, 0, 0, []), 0)] 111 _ _ _ (by decide +kernel) ?_
                rcases px_ite h with ⟨c16, h⟩ | ⟨c16, h⟩
                · refine And.intro (fun hp => absurd c16 hp) (fun _ => ?_)
                  obtain ⟨g33, h⟩ := px_gd h
                  refine And.intro g33 ?_
                  obtain ⟨g34, h⟩ := px_gd h
                  refine And.intro g34 ?_
                  exact ih _ _ _ _ _ h
                · refine And.intro (fun _ => ?_) (fun hn => absurd c16 hn)
                  refine H [((1, 6, 0, 0, []), 2), ((0, 0, 0, 38, []), 2), ((13, 0, 153, 0, []), 3), ((1, 6, 0, 0, []), 2), ((0, 0, 0, 124, []), 2), ((13, 1, 202, 0, []), 3)] 139 _ _ _ (by decide +kernel) ?_
                  rcases px_ite h with ⟨c17, h⟩ | ⟨c17, h⟩
                  · refine And.intro (fun _ => ?_) (fun hn => absurd c17 hn)
                    exact ok_Law_reckon_16_p153 H ih _ _ _ _ _ _ h
                  · refine And.intro (fun hp => absurd hp c17) (fun _ => ?_)
                    rcases px_ite h with ⟨c23, h⟩ | ⟨c23, h⟩
                    · refine And.intro (fun hp => absurd c23 hp) (fun _ => ?_)
                      exact ok_Law_reckon_16_p153 H ih _ _ _ _ _ _ h
                    · refine And.intro (fun _ => ?_) (fun hn => absurd c23 hn)
                      refine H [((1, 3, 0, 0, []), 1), ((0, 0, 0, 2, []), 1), ((13, 2, 232, 0, []), 3), ((2, 0, 0, 0, []), 1), ((17, 16, 23, 0, []), 3), ((1, 3, 0, 0, []), 1), ((0, 0, 0, 1, []), 1), ((6, 1, 0, 0, []), 1), ((19, 23, 64, 0, []), 1), ((14, 1, 234, 0, []), 3), ((1, 6, 0, 0, []), 2), ((0, 0, 0, 47, []), 2), ((13, 0, 232, 0, []), 3), ((1, 6, 0, 0, []), 2), ((0, 0, 0, 37, []), 2), ((13, 1, 234, 0, []), 3), ((0, 0, 0, 0, []), 1), ((27, 0, 0, 0, []), 1)] 202 _ _ _ (by decide +kernel) ?_
                      rcases px_ite h with ⟨c24, h⟩ | ⟨c24, h⟩
                      · refine And.intro (fun _ => ?_) (fun hn => absurd c24 hn)
                        refine H [((0, 0, 0, 0, []), 1), ((27, 0, 0, 0, []), 1)] 232 _ _ _ (by decide +kernel) ?_
                        exact Prod.mk.inj (Option.some.inj h)
                      · refine And.intro (fun hp => absurd hp c24) (fun _ => ?_)
                        obtain ⟨g25, h⟩ := px_gd h
                        refine And.intro g25 ?_
                        rcases px_ite h with ⟨c26, h⟩ | ⟨c26, h⟩
                        · refine And.intro (fun hp => absurd c26 hp) (fun _ => ?_)
                          rcases px_ite h with ⟨c31, h⟩ | ⟨c31, h⟩
                          · refine And.intro (fun _ => ?_) (fun hn => absurd c31 hn)
                            refine H [((0, 0, 0, 0, []), 1), ((27, 0, 0, 0, []), 1)] 232 _ _ _ (by decide +kernel) ?_
                            exact Prod.mk.inj (Option.some.inj h)
                          · refine And.intro (fun hp => absurd hp c31) (fun _ => ?_)
                            rcases px_ite h with ⟨c32, h⟩ | ⟨c32, h⟩
                            · refine And.intro (fun hp => absurd c32 hp) (fun _ => ?_)
                              exact Prod.mk.inj (Option.some.inj h)
                            · refine And.intro (fun _ => ?_) (fun hn => absurd c32 hn)
                              exact ok_Law_reckon_16_p234 H ih _ _ _ _ _ _ h
                        · refine And.intro (fun _ => ?_) (fun hn => absurd c26 hn)
                          exact ok_Law_reckon_16_p234 H ih _ _ _ _ _ _ h
              · refine And.intro (fun hp => absurd hp c15) (fun _ => ?_)
                exact Prod.mk.inj (Option.some.inj h)
        · refine And.intro (fun hp => absurd hp c4) (fun _ => ?_)
          exact ih _ _ _ _ _ h
theorem ok_Law_reckon_16_w {l : Launch} {rv : Int} {rσ : pS} {G : Nat → pL → List pV → pS → Prop} (H : px_R l 1 89 rv rσ G) : ∀ (a1 a2 : Int) (σ : pS), f_Law_reckon_16 a1 a2 σ = some (rv, rσ) → G 0 [some (.inr 16), some (.inl a1), some (.inl a2), none, none, none, none] [] σ := by
  intro a1 a2 σ h
  unfold f_Law_reckon_16 at h
  refine H [((0, 0, 0, 0, []), 1), ((3, 3, 0, 0, []), 1), ((1, 1, 0, 0, []), 1), ((3, 4, 0, 0, []), 2), ((1, 1, 0, 0, []), 1), ((3, 5, 0, 0, []), 2), ((29, 1, 0, 0, []), 0)] 0 _ _ _ (by decide +kernel) ?_
  exact ok_Law_reckon_16_p8 H _ _ _ _ _ _ h
theorem ok_Law_reckon_16 {l : Launch} {a1 a2 : Int} {σ : pS} {v : Int} {σ1 : pS} (h : f_Law_reckon_16 a1 a2 σ = some (v, σ1)) : Con l 1 89 [.inr 16, .inl a1, .inl a2] σ v σ1 := Con_mk 3 7 rfl (by decide +kernel) (fun _ H => ok_Law_reckon_16_w H _ _ _ h)
theorem ok_Law_holds_16_w {l : Launch} {rv : Int} {rσ : pS} {G : Nat → pL → List pV → pS → Prop} (H : px_R l 2 88 rv rσ G) : ∀ (a1 : Int) (σ : pS), f_Law_holds_16 a1 σ = some (rv, rσ) → G 0 [some (.inr 16), some (.inl a1)] [] σ := by
  intro a1 σ h
  unfold f_Law_holds_16 at h
  refine H [((2, 0, 0, 0, []), 1), ((2, 0, 0, 0, []), 1), ((17, 16, 19, 0, []), 3), ((1, 1, 0, 0, []), 1), ((19, 19, 16, 0, []), 1), ((2, 0, 0, 0, []), 1), ((17, 16, 18, 0, []), 3), ((1, 1, 0, 0, []), 1), ((0, 0, 0, 1, []), 1), ((6, 0, 0, 0, []), 1), ((19, 18, 17, 0, []), 1), ((23, 89, 2, 1, [(0, 16)]), 3), ((14, 0, 25, 0, []), 3), ((0, 0, 0, 1, []), 1), ((12, 0, 26, 0, []), 3), ((27, 1, 0, 0, []), 1)] 0 _ _ _ (by decide +kernel) ?_
  obtain ⟨g1, h⟩ := px_gd h
  refine And.intro g1 ?_
  obtain ⟨g2, h⟩ := px_gd h
  refine And.intro g2 ?_
  obtain ⟨⟨vq3, σq3⟩, hq3, h⟩ := px_bind h
  dsimp only at h
  refine Exists.intro 1 (Exists.intro vq3 (Exists.intro σq3 (And.intro (Nat.le_of_ble_eq_true rfl) (And.intro (ok_Law_reckon_16 hq3) ?_))))
  rcases px_ite h with ⟨c4, h⟩ | ⟨c4, h⟩
  · refine And.intro (fun _ => ?_) (fun hn => absurd c4 hn)
    refine H [((0, 0, 0, 0, []), 1), ((27, 1, 0, 0, []), 1)] 25 _ _ _ (by decide +kernel) ?_
    refine And.intro (show (0 : Int) ≤ 0 ∧ (0 : Int) ≤ 1 from by decide) ?_
    exact Prod.mk.inj (Option.some.inj h)
  · refine And.intro (fun hp => absurd hp c4) (fun _ => ?_)
    refine And.intro (show (0 : Int) ≤ 1 ∧ (1 : Int) ≤ 1 from by decide) ?_
    exact Prod.mk.inj (Option.some.inj h)
theorem ok_Law_holds_16 {l : Launch} {a1 : Int} {σ : pS} {v : Int} {σ1 : pS} (h : f_Law_holds_16 a1 σ = some (v, σ1)) : Con l 2 88 [.inr 16, .inl a1] σ v σ1 := Con_mk 2 2 rfl (by decide +kernel) (fun _ H => ok_Law_holds_16_w H _ _ h)
theorem ok_Law_delay_16_p2 {l : Launch} {rv : Int} {rσ : pS} {G : Nat → pL → List pV → pS → Prop} (H : px_R l 3 87 rv rσ G) : ∀ (n : Nat) (a1 a2 : Int) (σ : pS), f_Law_delay_16_p2 n a1 a2 σ = some (rv, rσ) → G 2 [some (.inr 16), some (.inl a1), some (.inl a2), none] [] σ := by
  intro n
  induction n with
  | zero =>
    intro a1 a2 σ h
    unfold f_Law_delay_16_p2 at h
    cases h
  | succ n ih =>
    intro a1 a2 σ h
    unfold f_Law_delay_16_p2 at h
    refine H [((1, 2, 0, 0, []), 1), ((2, 0, 0, 0, []), 1), ((16, 16, 7, 0, []), 3), ((13, 3, 63, 0, []), 3), ((2, 0, 0, 0, []), 1), ((17, 16, 17, 0, []), 3), ((1, 2, 0, 0, []), 1), ((19, 17, 16, 0, []), 1), ((0, 0, 0, 100, []), 2), ((13, 1, 57, 0, []), 3), ((2, 0, 0, 0, []), 1), ((1, 2, 0, 0, []), 1), ((23, 88, 1, 1, [(0, 16)]), 3), ((14, 0, 57, 0, []), 3), ((2, 0, 0, 0, []), 1), ((2, 0, 0, 0, []), 1), ((17, 16, 18, 0, []), 3), ((1, 2, 0, 0, []), 1), ((19, 18, 17, 0, []), 1), ((2, 0, 0, 0, []), 1), ((17, 16, 19, 0, []), 3), ((1, 2, 0, 0, []), 1), ((19, 19, 16, 0, []), 1), ((23, 89, 2, 1, [(0, 16)]), 3), ((3, 3, 0, 0, []), 1), ((0, 0, 0, 1, []), 1), ((0, 0, 0, 20, []), 2), ((1, 3, 0, 0, []), 1), ((25, 0, 0, 0, []), 3), ((25, 1, 0, 0, []), 3), ((27, 0, 0, 0, []), 1)] 2 _ _ _ (by decide +kernel) ?_
    rcases px_ite h with ⟨c1, h⟩ | ⟨c1, h⟩
    · refine And.intro (fun _ => ?_) (fun hn => absurd c1 hn)
      refine H [((1, 1, 0, 0, []), 1), ((27, 0, 0, 0, []), 1)] 63 _ _ _ (by decide +kernel) ?_
      exact Prod.mk.inj (Option.some.inj h)
    · refine And.intro (fun hp => absurd hp c1) (fun _ => ?_)
      obtain ⟨g2, h⟩ := px_gd h
      refine And.intro g2 ?_
      rcases px_ite h with ⟨c3, h⟩ | ⟨c3, h⟩
      · refine And.intro (fun hp => absurd c3 hp) (fun _ => ?_)
        obtain ⟨⟨vq4, σq4⟩, hq4, h⟩ := px_bind h
        dsimp only at h
        refine Exists.intro 2 (Exists.intro vq4 (Exists.intro σq4 (And.intro (Nat.le_of_ble_eq_true rfl) (And.intro (ok_Law_holds_16 hq4) ?_))))
        rcases px_ite h with ⟨c5, h⟩ | ⟨c5, h⟩
        · refine And.intro (fun _ => ?_) (fun hn => absurd c5 hn)
          refine H [((5, 2, 0, 1, []), 3), ((12, 0, 2, 0, []), 3)] 57 _ _ _ (by decide +kernel) ?_
          exact ih _ _ _ h
        · refine And.intro (fun hp => absurd hp c5) (fun _ => ?_)
          obtain ⟨g6, h⟩ := px_gd h
          refine And.intro g6 ?_
          obtain ⟨g7, h⟩ := px_gd h
          refine And.intro g7 ?_
          obtain ⟨⟨vq8, σq8⟩, hq8, h⟩ := px_bind h
          dsimp only at h
          refine Exists.intro 1 (Exists.intro vq8 (Exists.intro σq8 (And.intro (Nat.le_of_ble_eq_true rfl) (And.intro (ok_Law_reckon_16 hq8) ?_))))
          exact Prod.mk.inj (Option.some.inj h)
      · refine And.intro (fun _ => ?_) (fun hn => absurd c3 hn)
        refine H [((5, 2, 0, 1, []), 3), ((12, 0, 2, 0, []), 3)] 57 _ _ _ (by decide +kernel) ?_
        exact ih _ _ _ h
theorem ok_Law_delay_16_w {l : Launch} {rv : Int} {rσ : pS} {G : Nat → pL → List pV → pS → Prop} (H : px_R l 3 87 rv rσ G) : ∀ (a1 : Int) (σ : pS), f_Law_delay_16 a1 σ = some (rv, rσ) → G 0 [some (.inr 16), some (.inl a1), none, none] [] σ := by
  intro a1 σ h
  unfold f_Law_delay_16 at h
  refine H [((0, 0, 0, 0, []), 1), ((3, 2, 0, 0, []), 1)] 0 _ _ _ (by decide +kernel) ?_
  exact ok_Law_delay_16_p2 H _ _ _ _ h
theorem ok_Law_delay_16 {l : Launch} {a1 : Int} {σ : pS} {v : Int} {σ1 : pS} (h : f_Law_delay_16 a1 σ = some (v, σ1)) : Con l 3 87 [.inr 16, .inl a1] σ v σ1 := Con_mk 2 4 rfl (by decide +kernel) (fun _ H => ok_Law_delay_16_w H _ _ h)
theorem ok_Mach_sendOff_3_p152 {l : Launch} {rv : Int} {rσ : pS} {G : Nat → pL → List pV → pS → Prop} (H : px_R l 4 81 rv rσ G) {k_5 : Int → Int → Int → Int → pS → Option (Int × pS)} (hk_5 : ∀ (a1 a2 a3 a4 : Int) (σ : pS), k_5 a1 a2 a3 a4 σ = some (rv, rσ) → G 5 [some (.inr 3), some (.inl a1), some (.inl a2), some (.inl a3), some (.inl a4)] [] σ) : ∀ (a1 a2 a3 a4 s0 s2 s3 : Int) (σ : pS), f_Mach_sendOff_3_p152 k_5 a1 a2 a3 a4 s0 s2 s3 σ = some (rv, rσ) → G 152 [some (.inr 3), some (.inl a1), some (.inl a2), some (.inl a3), some (.inl a4)] [.inl s0, .inr 16, .inl s2, .inl s3, .inr 40] σ := by
  intro a1 a2 a3 a4 s0 s2 s3 σ h
  unfold f_Mach_sendOff_3_p152 at h
  refine H [((23, 87, 1, 1, [(0, 16)]), 3), ((6, 0, 0, 0, []), 1), ((20, 40, 20, 0, []), 1), ((5, 4, 0, 1, []), 3), ((12, 0, 5, 0, []), 3)] 152 _ _ _ (by decide +kernel) ?_
  obtain ⟨⟨vq18, σq18⟩, hq18, h⟩ := px_bind h
  dsimp only at h
  refine Exists.intro 3 (Exists.intro vq18 (Exists.intro σq18 (And.intro (Nat.le_of_ble_eq_true rfl) (And.intro (ok_Law_delay_16 hq18) ?_))))
  obtain ⟨g19, h⟩ := px_gd h
  refine And.intro g19 ?_
  exact hk_5 _ _ _ _ _ h
theorem ok_Mach_sendOff_3_p5 {l : Launch} {rv : Int} {rσ : pS} {G : Nat → pL → List pV → pS → Prop} (H : px_R l 4 81 rv rσ G) : ∀ (n : Nat) (a1 a2 a3 a4 : Int) (σ : pS), f_Mach_sendOff_3_p5 n a1 a2 a3 a4 σ = some (rv, rσ) → G 5 [some (.inr 3), some (.inl a1), some (.inl a2), some (.inl a3), some (.inl a4)] [] σ := by
  intro n
  induction n with
  | zero =>
    intro a1 a2 a3 a4 σ h
    unfold f_Mach_sendOff_3_p5 at h
    cases h
  | succ n ih =>
    intro a1 a2 a3 a4 σ h
    unfold f_Mach_sendOff_3_p5 at h
    refine H [((1, 4, 0, 0, []), 2), ((2, 0, 0, 0, []), 1), ((17, 3, 4, 0, []), 3), ((16, 4, 11, 0, []), 3), ((13, 3, 163, 0, []), 3), ((2, 0, 0, 0, []), 1), ((17, 3, 39, 0, []), 3), ((1, 4, 0, 0, []), 2), ((19, 39, 20, 0, []), 1), ((14, 1, 157, 0, []), 3), ((2, 0, 0, 0, []), 1), ((2, 0, 0, 0, []), 1), ((17, 3, 4, 0, []), 3), ((17, 4, 12, 0, []), 3), ((1, 4, 0, 0, []), 2), ((19, 12, 20, 0, []), 1), ((23, 82, 1, 1, [(0, 3)]), 3), ((14, 0, 157, 0, []), 3), ((2, 0, 0, 0, []), 1), ((2, 0, 0, 0, []), 1), ((17, 3, 4, 0, []), 3), ((17, 4, 13, 0, []), 3), ((1, 4, 0, 0, []), 2), ((19, 13, 20, 0, []), 1), ((23, 82, 1, 1, [(0, 3)]), 3), ((14, 1, 64, 0, []), 3), ((12, 0, 157, 0, []), 3), ((5, 4, 0, 1, []), 3), ((12, 0, 5, 0, []), 3)] 5 _ _ _ (by decide +kernel) ?_
    rcases px_ite h with ⟨c1, h⟩ | ⟨c1, h⟩
    · refine And.intro (fun _ => ?_) (fun hn => absurd c1 hn)
      refine H [((28, 0, 0, 0, []), 1)] 163 _ _ _ (by decide +kernel) ?_
      exact (Prod.mk.inj (Option.some.inj h)).2
    · refine And.intro (fun hp => absurd hp c1) (fun _ => ?_)
      obtain ⟨g2, h⟩ := px_gd h
      refine And.intro g2 ?_
      rcases px_ite h with ⟨c3, h⟩ | ⟨c3, h⟩
      · refine And.intro (fun hp => absurd c3 hp) (fun _ => ?_)
        obtain ⟨g4, h⟩ := px_gd h
        refine And.intro g4 ?_
        obtain ⟨⟨vq5, σq5⟩, hq5, h⟩ := px_bind h
        dsimp only at h
        refine Exists.intro 0 (Exists.intro vq5 (Exists.intro σq5 (And.intro (Nat.le_of_ble_eq_true rfl) (And.intro (ok_Mach_isDone_3 hq5) ?_))))
        rcases px_ite h with ⟨c6, h⟩ | ⟨c6, h⟩
        · refine And.intro (fun _ => ?_) (fun hn => absurd c6 hn)
          refine H [((5, 4, 0, 1, []), 3), ((12, 0, 5, 0, []), 3)] 157 _ _ _ (by decide +kernel) ?_
          exact ih _ _ _ _ _ h
        · refine And.intro (fun hp => absurd hp c6) (fun _ => ?_)
          obtain ⟨g7, h⟩ := px_gd h
          refine And.intro g7 ?_
          obtain ⟨⟨vq8, σq8⟩, hq8, h⟩ := px_bind h
          dsimp only at h
          refine Exists.intro 0 (Exists.intro vq8 (Exists.intro σq8 (And.intro (Nat.le_of_ble_eq_true rfl) (And.intro (ok_Mach_isDone_3 hq8) ?_))))
          rcases px_ite h with ⟨c9, h⟩ | ⟨c9, h⟩
          · refine And.intro (fun hp => absurd c9 hp) (fun _ => ?_)
            exact ih _ _ _ _ _ h
          · refine And.intro (fun _ => ?_) (fun hn => absurd c9 hn)
            refine H [((2, 0, 0, 0, []), 1), ((1, 4, 0, 0, []), 2), ((1, 2, 0, 0, []), 1), ((23, 83, 2, 1, [(0, 3)]), 3), ((14, 0, 90, 0, []), 3), ((2, 0, 0, 0, []), 1), ((17, 3, 32, 0, []), 3), ((17, 32, 33, 0, []), 3), ((0, 0, 0, 5, []), 1), ((10, 0, 0, 0, []), 1), ((19, 33, 6, 0, []), 1), ((0, 0, 0, 1, []), 1), ((6, 0, 0, 0, []), 1), ((20, 33, 6, 0, []), 1), ((12, 0, 157, 0, []), 3), ((5, 4, 0, 1, []), 3), ((12, 0, 5, 0, []), 3)] 64 _ _ _ (by decide +kernel) ?_
            obtain ⟨⟨vq10, σq10⟩, hq10, h⟩ := px_bind h
            dsimp only at h
            refine Exists.intro 0 (Exists.intro vq10 (Exists.intro σq10 (And.intro (Nat.le_of_ble_eq_true rfl) (And.intro (ok_Mach_mustWait_3 hq10) ?_))))
            rcases px_ite h with ⟨c11, h⟩ | ⟨c11, h⟩
            · refine And.intro (fun _ => ?_) (fun hn => absurd c11 hn)
              refine H [((1, 3, 0, 0, []), 1), ((1, 1, 0, 0, []), 1), ((13, 3, 157, 0, []), 3), ((5, 3, 0, 1, []), 3), ((2, 0, 0, 0, []), 1), ((1, 4, 0, 0, []), 2), ((2, 0, 0, 0, []), 1), ((17, 3, 28, 0, []), 3), ((23, 84, 0, 1, [(0, 28)]), 3), ((23, 85, 2, 0, [(0, 3)]), 3), ((2, 0, 0, 0, []), 1), ((17, 3, 39, 0, []), 3), ((1, 4, 0, 0, []), 2), ((0, 0, 0, 1, []), 1), ((20, 39, 20, 0, []), 1), ((2, 0, 0, 0, []), 1), ((17, 3, 40, 0, []), 3), ((1, 4, 0, 0, []), 2), ((2, 0, 0, 0, []), 1), ((16, 3, 11, 0, []), 3), ((2, 0, 0, 0, []), 1), ((17, 3, 16, 0, []), 3), ((2, 0, 0, 0, []), 1), ((17, 3, 4, 0, []), 3), ((17, 4, 5, 0, []), 3), ((1, 4, 0, 0, []), 2), ((19, 5, 20, 0, []), 1), ((0, 0, 0, 2, []), 1), ((13, 1, 151, 0, []), 3), ((0, 0, 0, 2, []), 1), ((12, 0, 152, 0, []), 3)] 90 _ _ _ (by decide +kernel) ?_
              rcases px_ite h with ⟨c12, h⟩ | ⟨c12, h⟩
              · refine And.intro (fun _ => ?_) (fun hn => absurd c12 hn)
                refine H [((5, 4, 0, 1, []), 3), ((12, 0, 5, 0, []), 3)] 157 _ _ _ (by decide +kernel) ?_
                exact ih _ _ _ _ _ h
              · refine And.intro (fun hp => absurd hp c12) (fun _ => ?_)
                obtain ⟨⟨vq13, σq13⟩, hq13, h⟩ := px_bind h
                dsimp only at h
                refine Exists.intro 0 (Exists.intro vq13 (Exists.intro σq13 (And.intro (Nat.le_of_ble_eq_true rfl) (And.intro (ok_State_draw_28 hq13) ?_))))
                obtain ⟨⟨vq14, σq14⟩, hq14, h⟩ := px_bind h
                dsimp only at h
                refine Exists.intro 1 (Exists.intro vq14 (Exists.intro σq14 (And.intro (Nat.le_of_ble_eq_true rfl) (And.intro (ok_Mach_tellLaw_3 hq14) ?_))))
                obtain ⟨g15, h⟩ := px_gd h
                refine And.intro g15 ?_
                obtain ⟨g16, h⟩ := px_gd h
                refine And.intro g16 ?_
                rcases px_ite h with ⟨c17, h⟩ | ⟨c17, h⟩
                · refine And.intro (fun hp => absurd c17 hp) (fun _ => ?_)
                  exact ok_Mach_sendOff_3_p152 H ih _ _ _ _ _ _ _ _ h
                · refine And.intro (fun _ => ?_) (fun hn => absurd c17 hn)
                  refine H [((0, 0, 0, 1, []), 1)] 151 _ _ _ (by decide +kernel) ?_
                  exact ok_Mach_sendOff_3_p152 H ih _ _ _ _ _ _ _ _ h
            · refine And.intro (fun hp => absurd hp c11) (fun _ => ?_)
              refine And.intro (show (0 : Int) ≤ 5 ∧ (5 : Int) < 6 from by decide) ?_
              refine And.intro (show (0 : Int) ≤ 5 ∧ (5 : Int) < 6 from by decide) ?_
              exact ih _ _ _ _ _ h
      · refine And.intro (fun _ => ?_) (fun hn => absurd c3 hn)
        refine H [((5, 4, 0, 1, []), 3), ((12, 0, 5, 0, []), 3)] 157 _ _ _ (by decide +kernel) ?_
        exact ih _ _ _ _ _ h
theorem ok_Mach_sendOff_3_w {l : Launch} {rv : Int} {rσ : pS} {G : Nat → pL → List pV → pS → Prop} (H : px_R l 4 81 rv rσ G) : ∀ (a1 a2 : Int) (σ : pS), f_Mach_sendOff_3 a1 a2 σ = some (rv, rσ) → G 0 [some (.inr 3), some (.inl a1), some (.inl a2), none, none] [] σ := by
  intro a1 a2 σ h
  unfold f_Mach_sendOff_3 at h
  refine H [((0, 0, 0, 0, []), 1), ((3, 3, 0, 0, []), 1), ((0, 0, 0, 0, []), 1), ((3, 4, 0, 0, []), 2)] 0 _ _ _ (by decide +kernel) ?_
  exact ok_Mach_sendOff_3_p5 H _ _ _ _ _ _ h
theorem ok_Mach_sendOff_3 {l : Launch} {a1 a2 : Int} {σ : pS} {v : Int} {σ1 : pS} (h : f_Mach_sendOff_3 a1 a2 σ = some (v, σ1)) : Con l 4 81 [.inr 3, .inl a1, .inl a2] σ v σ1 := Con_mk 3 5 rfl (by decide +kernel) (fun _ H => ok_Mach_sendOff_3_w H _ _ _ h)
theorem ok_Mach_oldestToRetire_3_p2 {l : Launch} {rv : Int} {rσ : pS} {G : Nat → pL → List pV → pS → Prop} (H : px_R l 0 92 rv rσ G) : ∀ (n : Nat) (a1 : Int) (σ : pS), f_Mach_oldestToRetire_3_p2 n a1 σ = some (rv, rσ) → G 2 [some (.inr 3), some (.inl a1)] [] σ := by
  intro n
  induction n with
  | zero =>
    intro a1 σ h
    unfold f_Mach_oldestToRetire_3_p2 at h
    cases h
  | succ n ih =>
    intro a1 σ h
    unfold f_Mach_oldestToRetire_3_p2 at h
    refine H [((1, 1, 0, 0, []), 1), ((2, 0, 0, 0, []), 1), ((17, 3, 4, 0, []), 3), ((16, 4, 11, 0, []), 3), ((13, 3, 53, 0, []), 3), ((2, 0, 0, 0, []), 1), ((17, 3, 4, 0, []), 3), ((17, 4, 5, 0, []), 3), ((1, 1, 0, 0, []), 1), ((19, 5, 20, 0, []), 1), ((0, 0, 0, 3, []), 1), ((13, 1, 47, 0, []), 3), ((2, 0, 0, 0, []), 1), ((17, 3, 39, 0, []), 3), ((1, 1, 0, 0, []), 1), ((19, 39, 20, 0, []), 1), ((0, 0, 0, 2, []), 1), ((13, 1, 47, 0, []), 3), ((2, 0, 0, 0, []), 1), ((17, 3, 41, 0, []), 3), ((1, 1, 0, 0, []), 1), ((19, 41, 20, 0, []), 1), ((14, 1, 47, 0, []), 3), ((1, 1, 0, 0, []), 1), ((27, 0, 0, 0, []), 1)] 2 _ _ _ (by decide +kernel) ?_
    rcases px_ite h with ⟨c1, h⟩ | ⟨c1, h⟩
    · refine And.intro (fun _ => ?_) (fun hn => absurd c1 hn)
      refine H [((0, 0, 0, (-1), []), 1), ((27, 0, 0, 0, []), 1)] 53 _ _ _ (by decide +kernel) ?_
      exact Prod.mk.inj (Option.some.inj h)
    · refine And.intro (fun hp => absurd hp c1) (fun _ => ?_)
      obtain ⟨g2, h⟩ := px_gd h
      refine And.intro g2 ?_
      rcases px_ite h with ⟨c3, h⟩ | ⟨c3, h⟩
      · refine And.intro (fun hp => absurd c3 hp) (fun _ => ?_)
        obtain ⟨g4, h⟩ := px_gd h
        refine And.intro g4 ?_
        rcases px_ite h with ⟨c5, h⟩ | ⟨c5, h⟩
        · refine And.intro (fun hp => absurd c5 hp) (fun _ => ?_)
          obtain ⟨g6, h⟩ := px_gd h
          refine And.intro g6 ?_
          rcases px_ite h with ⟨c7, h⟩ | ⟨c7, h⟩
          · refine And.intro (fun hp => absurd c7 hp) (fun _ => ?_)
            exact Prod.mk.inj (Option.some.inj h)
          · refine And.intro (fun _ => ?_) (fun hn => absurd c7 hn)
            refine H [((5, 1, 0, 1, []), 3), ((12, 0, 2, 0, []), 3)] 47 _ _ _ (by decide +kernel) ?_
            exact ih _ _ h
        · refine And.intro (fun _ => ?_) (fun hn => absurd c5 hn)
          refine H [((5, 1, 0, 1, []), 3), ((12, 0, 2, 0, []), 3)] 47 _ _ _ (by decide +kernel) ?_
          exact ih _ _ h
      · refine And.intro (fun _ => ?_) (fun hn => absurd c3 hn)
        refine H [((5, 1, 0, 1, []), 3), ((12, 0, 2, 0, []), 3)] 47 _ _ _ (by decide +kernel) ?_
        exact ih _ _ h
theorem ok_Mach_oldestToRetire_3_w {l : Launch} {rv : Int} {rσ : pS} {G : Nat → pL → List pV → pS → Prop} (H : px_R l 0 92 rv rσ G) : ∀ (σ : pS), f_Mach_oldestToRetire_3  σ = some (rv, rσ) → G 0 [some (.inr 3), none] [] σ := by
  intro  σ h
  unfold f_Mach_oldestToRetire_3 at h
  refine H [((0, 0, 0, 0, []), 1), ((3, 1, 0, 0, []), 1)] 0 _ _ _ (by decide +kernel) ?_
  exact ok_Mach_oldestToRetire_3_p2 H _ _ _ h
theorem ok_Mach_oldestToRetire_3 {l : Launch} {σ : pS} {v : Int} {σ1 : pS} (h : f_Mach_oldestToRetire_3  σ = some (v, σ1)) : Con l 0 92 [.inr 3] σ v σ1 := Con_mk 1 2 rfl (by decide +kernel) (fun _ H => ok_Mach_oldestToRetire_3_w H  _ h)
theorem ok_Mach_doneAhead_3_p2 {l : Launch} {rv : Int} {rσ : pS} {G : Nat → pL → List pV → pS → Prop} (H : px_R l 0 93 rv rσ G) : ∀ (n : Nat) (a1 a2 : Int) (σ : pS), f_Mach_doneAhead_3_p2 n a1 a2 σ = some (rv, rσ) → G 2 [some (.inr 3), some (.inl a1), some (.inl a2)] [] σ := by
  intro n
  induction n with
  | zero =>
    intro a1 a2 σ h
    unfold f_Mach_doneAhead_3_p2 at h
    cases h
  | succ n ih =>
    intro a1 a2 σ h
    unfold f_Mach_doneAhead_3_p2 at h
    refine H [((1, 2, 0, 0, []), 1), ((1, 1, 0, 0, []), 1), ((13, 3, 25, 0, []), 3), ((2, 0, 0, 0, []), 1), ((17, 3, 39, 0, []), 3), ((1, 2, 0, 0, []), 1), ((19, 39, 20, 0, []), 1), ((0, 0, 0, 2, []), 1), ((13, 0, 19, 0, []), 3), ((0, 0, 0, 0, []), 1), ((27, 1, 0, 0, []), 1)] 2 _ _ _ (by decide +kernel) ?_
    rcases px_ite h with ⟨c1, h⟩ | ⟨c1, h⟩
    · refine And.intro (fun _ => ?_) (fun hn => absurd c1 hn)
      refine H [((0, 0, 0, 1, []), 1), ((27, 1, 0, 0, []), 1)] 25 _ _ _ (by decide +kernel) ?_
      refine And.intro (show (0 : Int) ≤ 1 ∧ (1 : Int) ≤ 1 from by decide) ?_
      exact Prod.mk.inj (Option.some.inj h)
    · refine And.intro (fun hp => absurd hp c1) (fun _ => ?_)
      obtain ⟨g2, h⟩ := px_gd h
      refine And.intro g2 ?_
      rcases px_ite h with ⟨c3, h⟩ | ⟨c3, h⟩
      · refine And.intro (fun _ => ?_) (fun hn => absurd c3 hn)
        refine H [((5, 2, 0, 1, []), 3), ((12, 0, 2, 0, []), 3)] 19 _ _ _ (by decide +kernel) ?_
        exact ih _ _ _ h
      · refine And.intro (fun hp => absurd hp c3) (fun _ => ?_)
        refine And.intro (show (0 : Int) ≤ 0 ∧ (0 : Int) ≤ 1 from by decide) ?_
        exact Prod.mk.inj (Option.some.inj h)
theorem ok_Mach_doneAhead_3_w {l : Launch} {rv : Int} {rσ : pS} {G : Nat → pL → List pV → pS → Prop} (H : px_R l 0 93 rv rσ G) : ∀ (a1 : Int) (σ : pS), f_Mach_doneAhead_3 a1 σ = some (rv, rσ) → G 0 [some (.inr 3), some (.inl a1), none] [] σ := by
  intro a1 σ h
  unfold f_Mach_doneAhead_3 at h
  refine H [((0, 0, 0, 0, []), 1), ((3, 2, 0, 0, []), 1)] 0 _ _ _ (by decide +kernel) ?_
  exact ok_Mach_doneAhead_3_p2 H _ _ _ _ h
theorem ok_Mach_doneAhead_3 {l : Launch} {a1 : Int} {σ : pS} {v : Int} {σ1 : pS} (h : f_Mach_doneAhead_3 a1 σ = some (v, σ1)) : Con l 0 93 [.inr 3, .inl a1] σ v σ1 := Con_mk 2 3 rfl (by decide +kernel) (fun _ H => ok_Mach_doneAhead_3_w H _ _ h)
theorem ok_State_putBytes_28_p3 {l : Launch} {rv : Int} {rσ : pS} {G : Nat → pL → List pV → pS → Prop} (H : px_R l 0 95 rv rσ G) : ∀ (n : Nat) (a1 a2 a3 a4 : Int) (σ : pS), f_State_putBytes_28_p3 n a1 a2 a3 a4 σ = some (rv, rσ) → G 3 [some (.inr 28), some (.inl a1), some (.inl a2), some (.inl a3), some (.inl a4)] [] σ := by
  intro n
  induction n with
  | zero =>
    intro a1 a2 a3 a4 σ h
    unfold f_State_putBytes_28_p3 at h
    cases h
  | succ n ih =>
    intro a1 a2 a3 a4 σ h
    unfold f_State_putBytes_28_p3 at h
    refine H [((1, 4, 0, 0, []), 2), ((1, 2, 0, 0, []), 1), ((13, 3, 38, 0, []), 3), ((2, 0, 0, 0, []), 1), ((17, 28, 30, 0, []), 3), ((1, 1, 0, 0, []), 1), ((1, 4, 0, 0, []), 2), ((6, 0, 0, 0, []), 1), ((0, 0, 0, 63, []), 2), ((6, 3, 0, 0, []), 1), ((1, 3, 0, 0, []), 1), ((0, 0, 0, 8, []), 2), ((1, 4, 0, 0, []), 2), ((6, 2, 0, 0, []), 1), ((6, 8, 0, 0, []), 1), ((0, 0, 0, 255, []), 3), ((6, 3, 0, 0, []), 1), ((20, 30, 64, 0, []), 1), ((5, 4, 0, 1, []), 3), ((12, 0, 3, 0, []), 3)] 3 _ _ _ (by decide +kernel) ?_
    rcases px_ite h with ⟨c1, h⟩ | ⟨c1, h⟩
    · refine And.intro (fun _ => ?_) (fun hn => absurd c1 hn)
      refine H [((28, 0, 0, 0, []), 1)] 38 _ _ _ (by decide +kernel) ?_
      exact (Prod.mk.inj (Option.some.inj h)).2
    · refine And.intro (fun hp => absurd hp c1) (fun _ => ?_)
      obtain ⟨g2, h⟩ := px_gd h
      refine And.intro g2 ?_
      exact ih _ _ _ _ _ h
theorem ok_State_putBytes_28_w {l : Launch} {rv : Int} {rσ : pS} {G : Nat → pL → List pV → pS → Prop} (H : px_R l 0 95 rv rσ G) : ∀ (a1 a2 a3 : Int) (σ : pS), f_State_putBytes_28 a1 a2 a3 σ = some (rv, rσ) → G 0 [some (.inr 28), some (.inl a1), some (.inl a2), some (.inl a3), none] [] σ := by
  intro a1 a2 a3 σ h
  unfold f_State_putBytes_28 at h
  refine H [((0, 0, 0, 0, []), 1), ((3, 4, 0, 0, []), 2)] 0 _ _ _ (by decide +kernel) ?_
  exact ok_State_putBytes_28_p3 H _ _ _ _ _ _ h
theorem ok_State_putBytes_28 {l : Launch} {a1 a2 a3 : Int} {σ : pS} {v : Int} {σ1 : pS} (h : f_State_putBytes_28 a1 a2 a3 σ = some (v, σ1)) : Con l 0 95 [.inr 28, .inl a1, .inl a2, .inl a3] σ v σ1 := Con_mk 4 5 rfl (by decide +kernel) (fun _ H => ok_State_putBytes_28_w H _ _ _ _ h)
theorem ok_Law_holdsBack_16_p2 {l : Launch} {rv : Int} {rσ : pS} {G : Nat → pL → List pV → pS → Prop} (H : px_R l 3 94 rv rσ G) : ∀ (n : Nat) (a1 : Int) (σ : pS), f_Law_holdsBack_16_p2 n a1 σ = some (rv, rσ) → G 2 [some (.inr 16), some (.inl a1)] [] σ := by
  intro n
  induction n with
  | zero =>
    intro a1 σ h
    unfold f_Law_holdsBack_16_p2 at h
    cases h
  | succ n ih =>
    intro a1 σ h
    unfold f_Law_holdsBack_16_p2 at h
    refine H [((1, 1, 0, 0, []), 1), ((2, 0, 0, 0, []), 1), ((16, 16, 7, 0, []), 3), ((13, 3, 37, 0, []), 3), ((2, 0, 0, 0, []), 1), ((17, 16, 17, 0, []), 3), ((1, 1, 0, 0, []), 1), ((19, 17, 16, 0, []), 1), ((0, 0, 0, 120, []), 2), ((13, 1, 31, 0, []), 3), ((2, 0, 0, 0, []), 1), ((1, 1, 0, 0, []), 1), ((23, 88, 1, 1, [(0, 16)]), 3), ((14, 0, 31, 0, []), 3), ((0, 0, 0, 1, []), 1), ((27, 1, 0, 0, []), 1)] 2 _ _ _ (by decide +kernel) ?_
    rcases px_ite h with ⟨c1, h⟩ | ⟨c1, h⟩
    · refine And.intro (fun _ => ?_) (fun hn => absurd c1 hn)
      refine H [((0, 0, 0, 0, []), 1), ((27, 1, 0, 0, []), 1)] 37 _ _ _ (by decide +kernel) ?_
      refine And.intro (show (0 : Int) ≤ 0 ∧ (0 : Int) ≤ 1 from by decide) ?_
      exact Prod.mk.inj (Option.some.inj h)
    · refine And.intro (fun hp => absurd hp c1) (fun _ => ?_)
      obtain ⟨g2, h⟩ := px_gd h
      refine And.intro g2 ?_
      rcases px_ite h with ⟨c3, h⟩ | ⟨c3, h⟩
      · refine And.intro (fun hp => absurd c3 hp) (fun _ => ?_)
        obtain ⟨⟨vq4, σq4⟩, hq4, h⟩ := px_bind h
        dsimp only at h
        refine Exists.intro 2 (Exists.intro vq4 (Exists.intro σq4 (And.intro (Nat.le_of_ble_eq_true rfl) (And.intro (ok_Law_holds_16 hq4) ?_))))
        rcases px_ite h with ⟨c5, h⟩ | ⟨c5, h⟩
        · refine And.intro (fun _ => ?_) (fun hn => absurd c5 hn)
          refine H [((5, 1, 0, 1, []), 3), ((12, 0, 2, 0, []), 3)] 31 _ _ _ (by decide +kernel) ?_
          exact ih _ _ h
        · refine And.intro (fun hp => absurd hp c5) (fun _ => ?_)
          refine And.intro (show (0 : Int) ≤ 1 ∧ (1 : Int) ≤ 1 from by decide) ?_
          exact Prod.mk.inj (Option.some.inj h)
      · refine And.intro (fun _ => ?_) (fun hn => absurd c3 hn)
        refine H [((5, 1, 0, 1, []), 3), ((12, 0, 2, 0, []), 3)] 31 _ _ _ (by decide +kernel) ?_
        exact ih _ _ h
theorem ok_Law_holdsBack_16_w {l : Launch} {rv : Int} {rσ : pS} {G : Nat → pL → List pV → pS → Prop} (H : px_R l 3 94 rv rσ G) : ∀ (σ : pS), f_Law_holdsBack_16  σ = some (rv, rσ) → G 0 [some (.inr 16), none] [] σ := by
  intro  σ h
  unfold f_Law_holdsBack_16 at h
  refine H [((0, 0, 0, 0, []), 1), ((3, 1, 0, 0, []), 1)] 0 _ _ _ (by decide +kernel) ?_
  exact ok_Law_holdsBack_16_p2 H _ _ _ h
theorem ok_Law_holdsBack_16 {l : Launch} {σ : pS} {v : Int} {σ1 : pS} (h : f_Law_holdsBack_16  σ = some (v, σ1)) : Con l 3 94 [.inr 16] σ v σ1 := Con_mk 1 2 rfl (by decide +kernel) (fun _ H => ok_Law_holdsBack_16_w H  _ h)
theorem ok_Mach_retireOne_3_p68 {l : Launch} {rv : Int} {rσ : pS} {G : Nat → pL → List pV → pS → Prop} (H : px_R l 4 91 rv rσ G) : ∀ (n : Nat) (a1 a3 : Int) (σ : pS), f_Mach_retireOne_3_p68 n a1 a3 σ = some (rv, rσ) → G 68 [some (.inr 3), some (.inl a1), none, some (.inl a3), none] [] σ := by
  intro n
  induction n with
  | zero =>
    intro a1 a3 σ h
    unfold f_Mach_retireOne_3_p68 at h
    cases h
  | succ n ih =>
    intro a1 a3 σ h
    unfold f_Mach_retireOne_3_p68 at h
    refine H [((1, 3, 0, 0, []), 1), ((2, 0, 0, 0, []), 1), ((17, 3, 4, 0, []), 3), ((17, 4, 7, 0, []), 3), ((1, 1, 0, 0, []), 1), ((19, 7, 20, 0, []), 1), ((13, 3, 123, 0, []), 3), ((2, 0, 0, 0, []), 1), ((17, 3, 32, 0, []), 3), ((17, 32, 37, 0, []), 3), ((1, 1, 0, 0, []), 1), ((19, 37, 20, 0, []), 1), ((1, 3, 0, 0, []), 1), ((6, 0, 0, 0, []), 1), ((0, 0, 0, 63, []), 2), ((6, 3, 0, 0, []), 1), ((3, 4, 0, 0, []), 2), ((2, 0, 0, 0, []), 1), ((17, 3, 42, 0, []), 3), ((1, 1, 0, 0, []), 1), ((0, 0, 0, 4, []), 1), ((6, 2, 0, 0, []), 1), ((1, 3, 0, 0, []), 1), ((6, 0, 0, 0, []), 1), ((2, 0, 0, 0, []), 1), ((17, 3, 28, 0, []), 3), ((17, 28, 30, 0, []), 3), ((1, 4, 0, 0, []), 2), ((19, 30, 64, 0, []), 1), ((20, 42, 80, 0, []), 1), ((5, 3, 0, 1, []), 3), ((12, 0, 68, 0, []), 3), ((29, 4, 0, 0, []), 0)] 68 _ _ _ (by decide +kernel) ?_
    obtain ⟨g7, h⟩ := px_gd h
    refine And.intro g7 ?_
    rcases px_ite h with ⟨c8, h⟩ | ⟨c8, h⟩
    · refine And.intro (fun _ => ?_) (fun hn => absurd c8 hn)
      refine H [((2, 0, 0, 0, []), 1), ((17, 3, 28, 0, []), 3), ((2, 0, 0, 0, []), 1), ((17, 3, 32, 0, []), 3), ((17, 32, 37, 0, []), 3), ((1, 1, 0, 0, []), 1), ((19, 37, 20, 0, []), 1), ((2, 0, 0, 0, []), 1), ((17, 3, 4, 0, []), 3), ((17, 4, 7, 0, []), 3), ((1, 1, 0, 0, []), 1), ((19, 7, 20, 0, []), 1), ((2, 0, 0, 0, []), 1), ((17, 3, 32, 0, []), 3), ((17, 32, 36, 0, []), 3), ((1, 1, 0, 0, []), 1), ((19, 36, 20, 0, []), 1), ((23, 95, 3, 0, [(0, 28)]), 3), ((2, 0, 0, 0, []), 1), ((17, 3, 41, 0, []), 3), ((1, 1, 0, 0, []), 1), ((0, 0, 0, 1, []), 1), ((20, 41, 20, 1, []), 1), ((28, 0, 0, 0, []), 1)] 123 _ _ _ (by decide +kernel) ?_
      obtain ⟨g9, h⟩ := px_gd h
      refine And.intro g9 ?_
      obtain ⟨g10, h⟩ := px_gd h
      refine And.intro g10 ?_
      obtain ⟨g11, h⟩ := px_gd h
      refine And.intro g11 ?_
      obtain ⟨⟨vq12, σq12⟩, hq12, h⟩ := px_bind h
      dsimp only at h
      refine Exists.intro 0 (Exists.intro vq12 (Exists.intro σq12 (And.intro (Nat.le_of_ble_eq_true rfl) (And.intro (ok_State_putBytes_28 hq12) ?_))))
      obtain ⟨g13, h⟩ := px_gd h
      refine And.intro g13 ?_
      refine And.intro (show (0 : Int) ≤ 1 ∧ (1 : Int) ≤ 1 from by decide) ?_
      exact (Prod.mk.inj (Option.some.inj h)).2
    · refine And.intro (fun hp => absurd hp c8) (fun _ => ?_)
      obtain ⟨g14, h⟩ := px_gd h
      refine And.intro g14 ?_
      obtain ⟨g15, h⟩ := px_gd h
      refine And.intro g15 ?_
      obtain ⟨g16, h⟩ := px_gd h
      refine And.intro g16 ?_
      exact ih _ _ _ h
theorem ok_Mach_retireOne_3_p59 {l : Launch} {rv : Int} {rσ : pS} {G : Nat → pL → List pV → pS → Prop} (H : px_R l 4 91 rv rσ G) : ∀ (a1 : Int) (σ : pS), f_Mach_retireOne_3_p59 a1 σ = some (rv, rσ) → G 59 [some (.inr 3), some (.inl a1), none, none, none] [] σ := by
  intro a1 σ h
  unfold f_Mach_retireOne_3_p59 at h
  refine H [((2, 0, 0, 0, []), 1), ((1, 1, 0, 0, []), 1), ((0, 0, 0, 1, []), 1), ((6, 0, 0, 0, []), 1), ((23, 78, 1, 0, [(0, 3)]), 3), ((0, 0, 0, 0, []), 1), ((3, 3, 0, 0, []), 1)] 59 _ _ _ (by decide +kernel) ?_
  obtain ⟨⟨vq6, σq6⟩, hq6, h⟩ := px_bind h
  dsimp only at h
  refine Exists.intro 0 (Exists.intro vq6 (Exists.intro σq6 (And.intro (Nat.le_of_ble_eq_true rfl) (And.intro (ok_Mach_undoDownTo_3 hq6) ?_))))
  exact ok_Mach_retireOne_3_p68 H _ _ _ _ h
theorem ok_Mach_retireOne_3_p24 {l : Launch} {rv : Int} {rσ : pS} {G : Nat → pL → List pV → pS → Prop} (H : px_R l 4 91 rv rσ G) : ∀ (a1 s0 : Int) (σ : pS), f_Mach_retireOne_3_p24 a1 s0 σ = some (rv, rσ) → G 24 [some (.inr 3), some (.inl a1), none, none, none] [.inl s0] σ := by
  intro a1 s0 σ h
  unfold f_Mach_retireOne_3_p24 at h
  refine H [((3, 2, 0, 0, []), 1), ((1, 2, 0, 0, []), 1), ((14, 0, 59, 0, []), 3), ((2, 0, 0, 0, []), 1), ((1, 1, 0, 0, []), 1), ((0, 0, 0, 0, []), 1), ((23, 85, 2, 0, [(0, 3)]), 3), ((2, 0, 0, 0, []), 1), ((17, 3, 16, 0, []), 3), ((23, 94, 0, 1, [(0, 16)]), 3), ((14, 0, 46, 0, []), 3), ((28, 0, 0, 0, []), 1)] 24 _ _ _ (by decide +kernel) ?_
  rcases px_ite h with ⟨c5, h⟩ | ⟨c5, h⟩
  · refine And.intro (fun _ => ?_) (fun hn => absurd c5 hn)
    refine H [((29, 2, 0, 0, []), 0)] 59 _ _ _ (by decide +kernel) ?_
    exact ok_Mach_retireOne_3_p59 H _ _ h
  · refine And.intro (fun hp => absurd hp c5) (fun _ => ?_)
    obtain ⟨⟨vq17, σq17⟩, hq17, h⟩ := px_bind h
    dsimp only at h
    refine Exists.intro 1 (Exists.intro vq17 (Exists.intro σq17 (And.intro (Nat.le_of_ble_eq_true rfl) (And.intro (ok_Mach_tellLaw_3 hq17) ?_))))
    obtain ⟨⟨vq18, σq18⟩, hq18, h⟩ := px_bind h
    dsimp only at h
    refine Exists.intro 3 (Exists.intro vq18 (Exists.intro σq18 (And.intro (Nat.le_of_ble_eq_true rfl) (And.intro (ok_Law_holdsBack_16 hq18) ?_))))
    rcases px_ite h with ⟨c19, h⟩ | ⟨c19, h⟩
    · refine And.intro (fun _ => ?_) (fun hn => absurd c19 hn)
      refine H [((2, 0, 0, 0, []), 1), ((17, 3, 32, 0, []), 3), ((17, 32, 33, 0, []), 3), ((0, 0, 0, 3, []), 1), ((10, 0, 0, 0, []), 1), ((19, 33, 6, 0, []), 1), ((0, 0, 0, 1, []), 1), ((6, 0, 0, 0, []), 1), ((20, 33, 6, 0, []), 1), ((29, 2, 0, 0, []), 0)] 46 _ _ _ (by decide +kernel) ?_
      refine And.intro (show (0 : Int) ≤ 3 ∧ (3 : Int) < 6 from by decide) ?_
      refine And.intro (show (0 : Int) ≤ 3 ∧ (3 : Int) < 6 from by decide) ?_
      exact ok_Mach_retireOne_3_p59 H _ _ h
    · refine And.intro (fun hp => absurd hp c19) (fun _ => ?_)
      exact (Prod.mk.inj (Option.some.inj h)).2
theorem ok_Mach_retireOne_3_w {l : Launch} {rv : Int} {rσ : pS} {G : Nat → pL → List pV → pS → Prop} (H : px_R l 4 91 rv rσ G) : ∀ (σ : pS), f_Mach_retireOne_3  σ = some (rv, rσ) → G 0 [some (.inr 3), none, none, none, none] [] σ := by
  intro  σ h
  unfold f_Mach_retireOne_3 at h
  refine H [((2, 0, 0, 0, []), 1), ((23, 92, 0, 1, [(0, 3)]), 3), ((3, 1, 0, 0, []), 1), ((1, 1, 0, 0, []), 1), ((0, 0, 0, (-1), []), 1), ((13, 1, 11, 0, []), 3), ((28, 0, 0, 0, []), 1)] 0 _ _ _ (by decide +kernel) ?_
  obtain ⟨⟨vq1, σq1⟩, hq1, h⟩ := px_bind h
  dsimp only at h
  refine Exists.intro 0 (Exists.intro vq1 (Exists.intro σq1 (And.intro (Nat.le_of_ble_eq_true rfl) (And.intro (ok_Mach_oldestToRetire_3 hq1) ?_))))
  rcases px_ite h with ⟨c2, h⟩ | ⟨c2, h⟩
  · refine And.intro (fun hp => absurd c2 hp) (fun _ => ?_)
    exact (Prod.mk.inj (Option.some.inj h)).2
  · refine And.intro (fun _ => ?_) (fun hn => absurd c2 hn)
    refine H [((2, 0, 0, 0, []), 1), ((1, 1, 0, 0, []), 1), ((23, 93, 1, 1, [(0, 3)]), 3), ((14, 1, 23, 0, []), 3), ((0, 0, 0, 1, []), 1), ((12, 0, 24, 0, []), 3)] 11 _ _ _ (by decide +kernel) ?_
    obtain ⟨⟨vq3, σq3⟩, hq3, h⟩ := px_bind h
    dsimp only at h
    refine Exists.intro 0 (Exists.intro vq3 (Exists.intro σq3 (And.intro (Nat.le_of_ble_eq_true rfl) (And.intro (ok_Mach_doneAhead_3 hq3) ?_))))
    rcases px_ite h with ⟨c4, h⟩ | ⟨c4, h⟩
    · refine And.intro (fun hp => absurd c4 hp) (fun _ => ?_)
      exact ok_Mach_retireOne_3_p24 H _ _ _ h
    · refine And.intro (fun _ => ?_) (fun hn => absurd c4 hn)
      refine H [((0, 0, 0, 0, []), 1)] 23 _ _ _ (by decide +kernel) ?_
      exact ok_Mach_retireOne_3_p24 H _ _ _ h
theorem ok_Mach_retireOne_3 {l : Launch} {σ : pS} {v : Int} {σ1 : pS} (h : f_Mach_retireOne_3  σ = some (v, σ1)) : Con l 4 91 [.inr 3] σ v σ1 := Con_mk 1 5 rfl (by decide +kernel) (fun _ H => ok_Mach_retireOne_3_w H  _ h)
