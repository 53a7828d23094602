theorem ok_M_reckonsTo_84_p63 {l : Launch} {rv : Int} {rσ : pS} {G : Nat → pL → List pV → pS → Prop} (H : px_R l 1 203 rv rσ G) {k_16 : Int → Int → Int → Int → pS → Option (Int × pS)} (hk_16 : ∀ (a2 a3 a4 a5 : Int) (σ : pS), k_16 a2 a3 a4 a5 σ = some (rv, rσ) → G 16 [some (.inr 84), none, some (.inl a2), some (.inl a3), some (.inl a4), some (.inl a5), none, none] [] σ) : ∀ (a2 a3 a4 a5 a6 a7 : Int) (σ : pS), f_M_reckonsTo_84_p63 k_16 a2 a3 a4 a5 a6 a7 σ = some (rv, rσ) → G 63 [some (.inr 84), none, some (.inl a2), some (.inl a3), some (.inl a4), some (.inl a5), some (.inl a6), some (.inl a7)] [] σ := by
  intro a2 a3 a4 a5 a6 a7 σ h
  unfold f_M_reckonsTo_84_p63 at h
  refine H [((2, 0, 0, 0, []), 1), ((17, 84, 108, 0, []), 3), ((1, 3, 0, 0, []), 1), ((1, 6, 0, 0, []), 2), ((14, 1, 78, 0, []), 3), ((1, 7, 0, 0, []), 2), ((12, 0, 85, 0, []), 3), ((20, 108, 260, 0, []), 1), ((1, 3, 0, 0, []), 1), ((0, 0, 0, 1, []), 1), ((6, 0, 0, 0, []), 1), ((3, 3, 0, 0, []), 1), ((12, 0, 230, 0, []), 3), ((12, 0, 16, 0, []), 3), ((29, 6, 0, 0, []), 0), ((29, 7, 0, 0, []), 0)] 63 _ _ _ (by decide +kernel) ?_
  rcases px_ite h with ⟨c8, h⟩ | ⟨c8, h⟩
  · refine And.intro (fun hp => absurd c8 hp) (fun _ => ?_)
    obtain ⟨g11, h⟩ := px_gd h
    refine And.intro g11 ?_
    exact hk_16 _ _ _ _ _ h
  · refine And.intro (fun _ => ?_) (fun hn => absurd c8 hn)
    refine H [((2, 0, 0, 0, []), 1), ((17, 84, 109, 0, []), 3), ((1, 7, 0, 0, []), 2), ((19, 109, 7, 0, []), 1), ((20, 108, 260, 0, []), 1), ((1, 3, 0, 0, []), 1), ((0, 0, 0, 1, []), 1), ((6, 0, 0, 0, []), 1), ((3, 3, 0, 0, []), 1), ((12, 0, 230, 0, []), 3), ((12, 0, 16, 0, []), 3), ((29, 6, 0, 0, []), 0), ((29, 7, 0, 0, []), 0)] 78 _ _ _ (by decide +kernel) ?_
    obtain ⟨g9, h⟩ := px_gd h
    refine And.intro g9 ?_
    obtain ⟨g10, h⟩ := px_gd h
    refine And.intro g10 ?_
    exact hk_16 _ _ _ _ _ h
theorem ok_M_reckonsTo_84_p155 {l : Launch} {rv : Int} {rσ : pS} {G : Nat → pL → List pV → pS → Prop} (H : px_R l 1 203 rv rσ G) {k_16 : Int → Int → Int → Int → pS → Option (Int × pS)} (hk_16 : ∀ (a2 a3 a4 a5 : Int) (σ : pS), k_16 a2 a3 a4 a5 σ = some (rv, rσ) → G 16 [some (.inr 84), none, some (.inl a2), some (.inl a3), some (.inl a4), some (.inl a5), none, none] [] σ) : ∀ (a2 a3 a4 a5 a7 s0 s1 : Int) (σ : pS), f_M_reckonsTo_84_p155 k_16 a2 a3 a4 a5 a7 s0 s1 σ = some (rv, rσ) → G 155 [some (.inr 84), none, some (.inl a2), some (.inl a3), some (.inl a4), some (.inl a5), none, some (.inl a7)] [.inl s0, .inl s1] σ := by
  intro a2 a3 a4 a5 a7 s0 s1 σ h
  unfold f_M_reckonsTo_84_p155 at h
  refine H [((13, 1, 168, 0, []), 3), ((1, 4, 0, 0, []), 2), ((1, 7, 0, 0, []), 2), ((6, 0, 0, 0, []), 1), ((3, 5, 0, 0, []), 2), ((12, 0, 230, 0, []), 3), ((12, 0, 16, 0, []), 3), ((29, 7, 0, 0, []), 0)] 155 _ _ _ (by decide +kernel) ?_
  rcases px_ite h with ⟨c17, h⟩ | ⟨c17, h⟩
  · refine And.intro (fun hp => absurd c17 hp) (fun _ => ?_)
    exact hk_16 _ _ _ _ _ h
  · refine And.intro (fun _ => ?_) (fun hn => absurd c17 hn)
    refine H [((1, 3, 0, 0, []), 1), ((0, 0, 0, 1, []), 1), ((6, 1, 0, 0, []), 1), ((3, 3, 0, 0, []), 1), ((12, 0, 230, 0, []), 3), ((12, 0, 16, 0, []), 3), ((29, 7, 0, 0, []), 0)] 168 _ _ _ (by decide +kernel) ?_
    exact hk_16 _ _ _ _ _ h
theorem ok_M_reckonsTo_84_p135 {l : Launch} {rv : Int} {rσ : pS} {G : Nat → pL → List pV → pS → Prop} (H : px_R l 1 203 rv rσ G) {k_16 : Int → Int → Int → Int → pS → Option (Int × pS)} (hk_16 : ∀ (a2 a3 a4 a5 : Int) (σ : pS), k_16 a2 a3 a4 a5 σ = some (rv, rσ) → G 16 [some (.inr 84), none, some (.inl a2), some (.inl a3), some (.inl a4), some (.inl a5), none, none] [] σ) : ∀ (a2 a3 a4 a5 a6 a7 : Int) (σ : pS), f_M_reckonsTo_84_p135 k_16 a2 a3 a4 a5 a6 a7 σ = some (rv, rσ) → G 135 [some (.inr 84), none, some (.inl a2), some (.inl a3), some (.inl a4), some (.inl a5), some (.inl a6), some (.inl a7)] [] σ := by
  intro a2 a3 a4 a5 a6 a7 σ h
  unfold f_M_reckonsTo_84_p135 at h
  refine H [((2, 0, 0, 0, []), 1), ((17, 84, 108, 0, []), 3), ((1, 3, 0, 0, []), 1), ((0, 0, 0, 1, []), 1), ((6, 1, 0, 0, []), 1), ((19, 108, 260, 0, []), 1), ((1, 6, 0, 0, []), 2), ((0, 0, 0, 12, []), 2), ((13, 1, 154, 0, []), 3), ((0, 0, 0, 1, []), 1), ((12, 0, 155, 0, []), 3), ((29, 6, 0, 0, []), 0)] 135 _ _ _ (by decide +kernel) ?_
  obtain ⟨g15, h⟩ := px_gd h
  refine And.intro g15 ?_
  rcases px_ite h with ⟨c16, h⟩ | ⟨c16, h⟩
  · refine And.intro (fun hp => absurd c16 hp) (fun _ => ?_)
    exact ok_M_reckonsTo_84_p155 H hk_16 _ _ _ _ _ _ _ _ h
  · refine And.intro (fun _ => ?_) (fun hn => absurd c16 hn)
    refine H [((0, 0, 0, 0, []), 1), ((29, 6, 0, 0, []), 0)] 154 _ _ _ (by decide +kernel) ?_
    exact ok_M_reckonsTo_84_p155 H hk_16 _ _ _ _ _ _ _ _ h
theorem ok_M_reckonsTo_84_p203 {l : Launch} {rv : Int} {rσ : pS} {G : Nat → pL → List pV → pS → Prop} (H : px_R l 1 203 rv rσ G) {k_16 : Int → Int → Int → Int → pS → Option (Int × pS)} (hk_16 : ∀ (a2 a3 a4 a5 : Int) (σ : pS), k_16 a2 a3 a4 a5 σ = some (rv, rσ) → G 16 [some (.inr 84), none, some (.inl a2), some (.inl a3), some (.inl a4), some (.inl a5), none, none] [] σ) : ∀ (a2 a3 a4 a5 a6 : Int) (σ : pS), f_M_reckonsTo_84_p203 k_16 a2 a3 a4 a5 a6 σ = some (rv, rσ) → G 203 [some (.inr 84), none, some (.inl a2), some (.inl a3), some (.inl a4), some (.inl a5), some (.inl a6), none] [] σ := by
  intro a2 a3 a4 a5 a6 σ h
  unfold f_M_reckonsTo_84_p203 at h
  refine H [((2, 0, 0, 0, []), 1), ((17, 84, 108, 0, []), 3), ((1, 3, 0, 0, []), 1), ((0, 0, 0, 1, []), 1), ((6, 1, 0, 0, []), 1), ((1, 6, 0, 0, []), 2), ((2, 0, 0, 0, []), 1), ((17, 84, 108, 0, []), 3), ((1, 3, 0, 0, []), 1), ((0, 0, 0, 1, []), 1), ((6, 1, 0, 0, []), 1), ((19, 108, 260, 0, []), 1), ((2, 0, 0, 0, []), 1), ((17, 84, 108, 0, []), 3), ((1, 3, 0, 0, []), 1), ((19, 108, 260, 0, []), 1), ((24, 204, 3, 1, []), 3), ((20, 108, 260, 0, []), 1), ((12, 0, 16, 0, []), 3), ((29, 6, 0, 0, []), 0)] 203 _ _ _ (by decide +kernel) ?_
  obtain ⟨g22, h⟩ := px_gd h
  refine And.intro g22 ?_
  obtain ⟨g23, h⟩ := px_gd h
  refine And.intro g23 ?_
  obtain ⟨⟨vq24, σq24⟩, hq24, h⟩ := px_bind h
  dsimp only at h
  refine Exists.intro 0 (Exists.intro vq24 (Exists.intro σq24 (And.intro (Nat.le_of_ble_eq_true rfl) (And.intro (ok_M_reckon hq24) ?_))))
  obtain ⟨g25, h⟩ := px_gd h
  refine And.intro g25 ?_
  exact hk_16 _ _ _ _ _ h
theorem ok_M_reckonsTo_84_p192 {l : Launch} {rv : Int} {rσ : pS} {G : Nat → pL → List pV → pS → Prop} (H : px_R l 1 203 rv rσ G) {k_16 : Int → Int → Int → Int → pS → Option (Int × pS)} (hk_16 : ∀ (a2 a3 a4 a5 : Int) (σ : pS), k_16 a2 a3 a4 a5 σ = some (rv, rσ) → G 16 [some (.inr 84), none, some (.inl a2), some (.inl a3), some (.inl a4), some (.inl a5), none, none] [] σ) : ∀ (a2 a3 a4 a5 a6 : Int) (σ : pS), f_M_reckonsTo_84_p192 k_16 a2 a3 a4 a5 a6 σ = some (rv, rσ) → G 192 [some (.inr 84), none, some (.inl a2), some (.inl a3), some (.inl a4), some (.inl a5), some (.inl a6), none] [] σ := by
  intro a2 a3 a4 a5 a6 σ h
  unfold f_M_reckonsTo_84_p192 at h
  refine H [((2, 0, 0, 0, []), 1), ((17, 84, 108, 0, []), 3), ((1, 3, 0, 0, []), 1), ((19, 108, 260, 0, []), 1), ((14, 1, 203, 0, []), 3), ((0, 0, 0, 0, []), 1), ((27, 0, 0, 0, []), 1)] 192 _ _ _ (by decide +kernel) ?_
  obtain ⟨g20, h⟩ := px_gd h
  refine And.intro g20 ?_
  rcases px_ite h with ⟨c21, h⟩ | ⟨c21, h⟩
  · refine And.intro (fun hp => absurd c21 hp) (fun _ => ?_)
    exact Prod.mk.inj (Option.some.inj h)
  · refine And.intro (fun _ => ?_) (fun hn => absurd c21 hn)
    exact ok_M_reckonsTo_84_p203 H hk_16 _ _ _ _ _ _ h
theorem ok_M_reckonsTo_84_p16 {l : Launch} {rv : Int} {rσ : pS} {G : Nat → pL → List pV → pS → Prop} (H : px_R l 1 203 rv rσ G) : ∀ (n : Nat) (a2 a3 a4 a5 : Int) (σ : pS), f_M_reckonsTo_84_p16 n a2 a3 a4 a5 σ = some (rv, rσ) → G 16 [some (.inr 84), none, some (.inl a2), some (.inl a3), some (.inl a4), some (.inl a5), none, none] [] σ := by
  intro n
  induction n with
  | zero =>
    intro a2 a3 a4 a5 σ h
    unfold f_M_reckonsTo_84_p16 at h
    cases h
  | succ n ih =>
    intro a2 a3 a4 a5 σ h
    unfold f_M_reckonsTo_84_p16 at h
    refine H [((1, 5, 0, 0, []), 2), ((1, 2, 0, 0, []), 1), ((13, 3, 233, 0, []), 3), ((2, 0, 0, 0, []), 1), ((17, 84, 103, 0, []), 3), ((1, 5, 0, 0, []), 2), ((19, 103, 260, 0, []), 1), ((0, 0, 0, 1048576, []), 2), ((7, 0, 0, 0, []), 1), ((3, 6, 0, 0, []), 2), ((2, 0, 0, 0, []), 1), ((17, 84, 103, 0, []), 3), ((1, 5, 0, 0, []), 2), ((19, 103, 260, 0, []), 1), ((0, 0, 0, 1048576, []), 2), ((7, 1, 0, 0, []), 1), ((3, 7, 0, 0, []), 2), ((1, 5, 0, 0, []), 2), ((0, 0, 0, 1, []), 1), ((6, 0, 0, 0, []), 1), ((3, 5, 0, 0, []), 2), ((1, 6, 0, 0, []), 2), ((14, 0, 63, 0, []), 3), ((1, 6, 0, 0, []), 2), ((0, 0, 0, 1, []), 1), ((13, 1, 93, 0, []), 3)] 16 _ _ _ (by decide +kernel) ?_
    rcases px_ite h with ⟨c2, h⟩ | ⟨c2, h⟩
    · refine And.intro (fun _ => ?_) (fun hn => absurd c2 hn)
      refine H [((2, 0, 0, 0, []), 1), ((17, 84, 108, 0, []), 3), ((0, 0, 0, 0, []), 1), ((19, 108, 260, 0, []), 1), ((27, 0, 0, 0, []), 1)] 233 _ _ _ (by decide +kernel) ?_
      refine And.intro (show (0 : Int) ≤ 0 ∧ (0 : Int) < 260 from by decide) ?_
      exact Prod.mk.inj (Option.some.inj h)
    · refine And.intro (fun hp => absurd hp c2) (fun _ => ?_)
      obtain ⟨g3, h⟩ := px_gd h
      refine And.intro g3 ?_
      refine And.intro (show (1048576 : Int) ≠ 0 from by decide) (fun r4 hr4 => ?_)
      replace hr4 : r4 = pDiv (σ 103 a5.toNat) 1048576 := hr4.trans (px_dr_0 _ _)
      try rw [← hr4] at h
      obtain ⟨g5, h⟩ := px_gd h
      refine And.intro g5 ?_
      refine And.intro (show (1048576 : Int) ≠ 0 from by decide) (fun r6 hr6 => ?_)
      replace hr6 : r6 = pRem (σ 103 a5.toNat) 1048576 := hr6.trans (px_dr_1 _ _)
      try rw [← hr6] at h
      rcases px_ite h with ⟨c7, h⟩ | ⟨c7, h⟩
      · refine And.intro (fun _ => ?_) (fun hn => absurd c7 hn)
        exact ok_M_reckonsTo_84_p63 H ih _ _ _ _ _ _ _ h
      · refine And.intro (fun hp => absurd hp c7) (fun _ => ?_)
        rcases px_ite h with ⟨c12, h⟩ | ⟨c12, h⟩
        · refine And.intro (fun hp => absurd c12 hp) (fun _ => ?_)
          exact ok_M_reckonsTo_84_p63 H ih _ _ _ _ _ _ _ h
        · refine And.intro (fun _ => ?_) (fun hn => absurd c12 hn)
          refine H [((1, 6, 0, 0, []), 2), ((0, 0, 0, 10, []), 2), ((13, 1, 121, 0, []), 3), ((2, 0, 0, 0, []), 1), ((17, 84, 108, 0, []), 3), ((1, 3, 0, 0, []), 1), ((0, 0, 0, 1, []), 1), ((6, 1, 0, 0, []), 1), ((0, 0, 0, 1, []), 1), ((2, 0, 0, 0, []), 1), ((17, 84, 108, 0, []), 3), ((1, 3, 0, 0, []), 1), ((0, 0, 0, 1, []), 1), ((6, 1, 0, 0, []), 1), ((19, 108, 260, 0, []), 1), ((6, 1, 0, 0, []), 1), ((20, 108, 260, 0, []), 1), ((12, 0, 230, 0, []), 3), ((12, 0, 16, 0, []), 3), ((29, 6, 0, 0, []), 0), ((29, 7, 0, 0, []), 0)] 93 _ _ _ (by decide +kernel) ?_
          rcases px_ite h with ⟨c13, h⟩ | ⟨c13, h⟩
          · refine And.intro (fun hp => absurd c13 hp) (fun _ => ?_)
            obtain ⟨g27, h⟩ := px_gd h
            refine And.intro g27 ?_
            obtain ⟨g28, h⟩ := px_gd h
            refine And.intro g28 ?_
            exact ih _ _ _ _ _ h
          · refine And.intro (fun _ => ?_) (fun hn => absurd c13 hn)
            refine H [((1, 6, 0, 0, []), 2), ((0, 0, 0, 11, []), 2), ((13, 0, 135, 0, []), 3), ((1, 6, 0, 0, []), 2), ((0, 0, 0, 12, []), 2), ((13, 1, 175, 0, []), 3)] 121 _ _ _ (by decide +kernel) ?_
            rcases px_ite h with ⟨c14, h⟩ | ⟨c14, h⟩
            · refine And.intro (fun _ => ?_) (fun hn => absurd c14 hn)
              exact ok_M_reckonsTo_84_p135 H ih _ _ _ _ _ _ _ h
            · refine And.intro (fun hp => absurd hp c14) (fun _ => ?_)
              rcases px_ite h with ⟨c18, h⟩ | ⟨c18, h⟩
              · refine And.intro (fun hp => absurd c18 hp) (fun _ => ?_)
                exact ok_M_reckonsTo_84_p135 H ih _ _ _ _ _ _ _ h
              · refine And.intro (fun _ => ?_) (fun hn => absurd c18 hn)
                refine H [((1, 3, 0, 0, []), 1), ((0, 0, 0, 1, []), 1), ((6, 1, 0, 0, []), 1), ((3, 3, 0, 0, []), 1), ((1, 6, 0, 0, []), 2), ((0, 0, 0, 5, []), 1), ((13, 0, 192, 0, []), 3), ((1, 6, 0, 0, []), 2), ((0, 0, 0, 6, []), 2), ((13, 1, 203, 0, []), 3), ((29, 7, 0, 0, []), 0)] 175 _ _ _ (by decide +kernel) ?_
                rcases px_ite h with ⟨c19, h⟩ | ⟨c19, h⟩
                · refine And.intro (fun _ => ?_) (fun hn => absurd c19 hn)
                  refine H [((29, 7, 0, 0, []), 0)] 192 _ _ _ (by decide +kernel) ?_
                  exact ok_M_reckonsTo_84_p192 H ih _ _ _ _ _ _ h
                · refine And.intro (fun hp => absurd hp c19) (fun _ => ?_)
                  rcases px_ite h with ⟨c26, h⟩ | ⟨c26, h⟩
                  · refine And.intro (fun hp => absurd c26 hp) (fun _ => ?_)
                    exact ok_M_reckonsTo_84_p192 H ih _ _ _ _ _ _ h
                  · refine And.intro (fun _ => ?_) (fun hn => absurd c26 hn)
                    refine H [((29, 7, 0, 0, []), 0)] 203 _ _ _ (by decide +kernel) ?_
                    exact ok_M_reckonsTo_84_p203 H ih _ _ _ _ _ _ h
theorem ok_M_reckonsTo_84_w {l : Launch} {rv : Int} {rσ : pS} {G : Nat → pL → List pV → pS → Prop} (H : px_R l 1 203 rv rσ G) : ∀ (a1 a2 : Int) (σ : pS), f_M_reckonsTo_84 a1 a2 σ = some (rv, rσ) → G 0 [some (.inr 84), some (.inl a1), some (.inl a2), none, none, none, none, none] [] σ := by
  intro a1 a2 σ h
  unfold f_M_reckonsTo_84 at h
  refine H [((0, 0, 0, 0, []), 1), ((3, 3, 0, 0, []), 1), ((0, 0, 0, 260, []), 3), ((1, 1, 0, 0, []), 1), ((0, 0, 0, 260, []), 3), ((7, 0, 0, 0, []), 1), ((6, 2, 0, 0, []), 1), ((3, 4, 0, 0, []), 2), ((1, 1, 0, 0, []), 1), ((3, 5, 0, 0, []), 2), ((29, 1, 0, 0, []), 0)] 0 _ _ _ (by decide +kernel) ?_
  refine And.intro (show (260 : Int) ≠ 0 from by decide) (fun r1 hr1 => ?_)
  replace hr1 : r1 = pDiv a1 260 := hr1.trans (px_dr_0 _ _)
  try rw [← hr1] at h
  exact ok_M_reckonsTo_84_p16 H _ _ _ _ _ _ h
theorem ok_M_reckonsTo_84 {l : Launch} {a1 a2 : Int} {σ : pS} {v : Int} {σ1 : pS} (h : f_M_reckonsTo_84 a1 a2 σ = some (v, σ1)) : Con l 1 203 [.inr 84, .inl a1, .inl a2] σ v σ1 := Con_mk 3 8 rfl (by decide +kernel) (fun _ H => ok_M_reckonsTo_84_w H _ _ _ h)
theorem ok_M_isHeldBack_84_p2 {l : Launch} {rv : Int} {rσ : pS} {G : Nat → pL → List pV → pS → Prop} (H : px_R l 2 208 rv rσ G) : ∀ (n : Nat) (a1 : Int) (σ : pS), f_M_isHeldBack_84_p2 n a1 σ = some (rv, rσ) → G 2 [some (.inr 84), some (.inl a1)] [] σ := by
  intro n
  induction n with
  | zero =>
    intro a1 σ h
    unfold f_M_isHeldBack_84_p2 at h
    cases h
  | succ n ih =>
    intro a1 σ h
    unfold f_M_isHeldBack_84_p2 at h
    refine H [((1, 1, 0, 0, []), 1), ((2, 0, 0, 0, []), 1), ((16, 84, 27, 0, []), 3), ((13, 3, 49, 0, []), 3), ((2, 0, 0, 0, []), 1), ((17, 84, 104, 0, []), 3), ((1, 1, 0, 0, []), 1), ((19, 104, 16, 0, []), 1), ((0, 0, 0, 120, []), 2), ((13, 1, 43, 0, []), 3), ((2, 0, 0, 0, []), 1), ((2, 0, 0, 0, []), 1), ((17, 84, 106, 0, []), 3), ((1, 1, 0, 0, []), 1), ((19, 106, 16, 0, []), 1), ((2, 0, 0, 0, []), 1), ((17, 84, 107, 0, []), 3), ((1, 1, 0, 0, []), 1), ((19, 107, 16, 0, []), 1), ((23, 203, 2, 1, [(0, 84)]), 3), ((0, 0, 0, 1, []), 1), ((13, 1, 43, 0, []), 3), ((0, 0, 0, 1, []), 1), ((27, 1, 0, 0, []), 1)] 2 _ _ _ (by decide +kernel) ?_
    rcases px_ite h with ⟨c1, h⟩ | ⟨c1, h⟩
    · refine And.intro (fun _ => ?_) (fun hn => absurd c1 hn)
      refine H [((0, 0, 0, 0, []), 1), ((27, 1, 0, 0, []), 1)] 49 _ _ _ (by decide +kernel) ?_
      refine And.intro (show (0 : Int) ≤ 0 ∧ (0 : Int) ≤ 1 from by decide) ?_
      exact Prod.mk.inj (Option.some.inj h)
    · refine And.intro (fun hp => absurd hp c1) (fun _ => ?_)
      obtain ⟨g2, h⟩ := px_gd h
      refine And.intro g2 ?_
      rcases px_ite h with ⟨c3, h⟩ | ⟨c3, h⟩
      · refine And.intro (fun hp => absurd c3 hp) (fun _ => ?_)
        obtain ⟨g4, h⟩ := px_gd h
        refine And.intro g4 ?_
        obtain ⟨g5, h⟩ := px_gd h
        refine And.intro g5 ?_
        obtain ⟨⟨vq6, σq6⟩, hq6, h⟩ := px_bind h
        dsimp only at h
        refine Exists.intro 1 (Exists.intro vq6 (Exists.intro σq6 (And.intro (Nat.le_of_ble_eq_true rfl) (And.intro (ok_M_reckonsTo_84 hq6) ?_))))
        rcases px_ite h with ⟨c7, h⟩ | ⟨c7, h⟩
        · refine And.intro (fun hp => absurd c7 hp) (fun _ => ?_)
          refine And.intro (show (0 : Int) ≤ 1 ∧ (1 : Int) ≤ 1 from by decide) ?_
          exact Prod.mk.inj (Option.some.inj h)
        · refine And.intro (fun _ => ?_) (fun hn => absurd c7 hn)
          refine H [((5, 1, 0, 1, []), 3), ((12, 0, 2, 0, []), 3)] 43 _ _ _ (by decide +kernel) ?_
          exact ih _ _ h
      · refine And.intro (fun _ => ?_) (fun hn => absurd c3 hn)
        refine H [((5, 1, 0, 1, []), 3), ((12, 0, 2, 0, []), 3)] 43 _ _ _ (by decide +kernel) ?_
        exact ih _ _ h
theorem ok_M_isHeldBack_84_w {l : Launch} {rv : Int} {rσ : pS} {G : Nat → pL → List pV → pS → Prop} (H : px_R l 2 208 rv rσ G) : ∀ (σ : pS), f_M_isHeldBack_84  σ = some (rv, rσ) → G 0 [some (.inr 84), none] [] σ := by
  intro  σ h
  unfold f_M_isHeldBack_84 at h
  refine H [((0, 0, 0, 0, []), 1), ((3, 1, 0, 0, []), 1)] 0 _ _ _ (by decide +kernel) ?_
  exact ok_M_isHeldBack_84_p2 H _ _ _ h
theorem ok_M_isHeldBack_84 {l : Launch} {σ : pS} {v : Int} {σ1 : pS} (h : f_M_isHeldBack_84  σ = some (v, σ1)) : Con l 2 208 [.inr 84] σ v σ1 := Con_mk 1 2 rfl (by decide +kernel) (fun _ H => ok_M_isHeldBack_84_w H  _ h)
theorem ok_M_retires_84_p68 {l : Launch} {rv : Int} {rσ : pS} {G : Nat → pL → List pV → pS → Prop} (H : px_R l 3 205 rv rσ G) : ∀ (n : Nat) (a2 a4 : Int) (σ : pS), f_M_retires_84_p68 n a2 a4 σ = some (rv, rσ) → G 68 [some (.inr 84), none, some (.inl a2), none, some (.inl a4), none] [] σ := by
  intro n
  induction n with
  | zero =>
    intro a2 a4 σ h
    unfold f_M_retires_84_p68 at h
    cases h
  | succ n ih =>
    intro a2 a4 σ h
    unfold f_M_retires_84_p68 at h
    refine H [((1, 4, 0, 0, []), 2), ((2, 0, 0, 0, []), 1), ((17, 84, 93, 0, []), 3), ((1, 2, 0, 0, []), 1), ((19, 93, 20, 0, []), 1), ((13, 3, 135, 0, []), 3), ((2, 0, 0, 0, []), 1), ((17, 84, 121, 0, []), 3), ((1, 2, 0, 0, []), 1), ((19, 121, 20, 0, []), 1), ((1, 4, 0, 0, []), 2), ((6, 0, 0, 0, []), 1), ((0, 0, 0, 63, []), 2), ((6, 3, 0, 0, []), 1), ((3, 5, 0, 0, []), 2), ((2, 0, 0, 0, []), 1), ((17, 84, 125, 0, []), 3), ((0, 0, 0, 4, []), 1), ((1, 2, 0, 0, []), 1), ((6, 2, 0, 0, []), 1), ((1, 4, 0, 0, []), 2), ((6, 0, 0, 0, []), 1), ((2, 0, 0, 0, []), 1), ((17, 84, 128, 0, []), 3), ((1, 5, 0, 0, []), 2), ((19, 128, 64, 0, []), 1), ((20, 125, 80, 0, []), 1), ((2, 0, 0, 0, []), 1), ((17, 84, 128, 0, []), 3), ((1, 5, 0, 0, []), 2), ((2, 0, 0, 0, []), 1), ((17, 84, 120, 0, []), 3), ((1, 2, 0, 0, []), 1), ((19, 120, 20, 0, []), 1), ((1, 4, 0, 0, []), 2), ((24, 185, 2, 1, []), 3), ((20, 128, 64, 0, []), 1), ((5, 4, 0, 1, []), 3), ((12, 0, 68, 0, []), 3), ((29, 5, 0, 0, []), 0)] 68 _ _ _ (by decide +kernel) ?_
    obtain ⟨g8, h⟩ := px_gd h
    refine And.intro g8 ?_
    rcases px_ite h with ⟨c9, h⟩ | ⟨c9, h⟩
    · refine And.intro (fun _ => ?_) (fun hn => absurd c9 hn)
      refine H [((2, 0, 0, 0, []), 1), ((17, 84, 126, 0, []), 3), ((1, 2, 0, 0, []), 1), ((0, 0, 0, 1, []), 1), ((20, 126, 20, 1, []), 1), ((28, 0, 0, 0, []), 1)] 135 _ _ _ (by decide +kernel) ?_
      obtain ⟨g10, h⟩ := px_gd h
      refine And.intro g10 ?_
      refine And.intro (show (0 : Int) ≤ 1 ∧ (1 : Int) ≤ 1 from by decide) ?_
      exact (Prod.mk.inj (Option.some.inj h)).2
    · refine And.intro (fun hp => absurd hp c9) (fun _ => ?_)
      obtain ⟨g11, h⟩ := px_gd h
      refine And.intro g11 ?_
      obtain ⟨g12, h⟩ := px_gd h
      refine And.intro g12 ?_
      obtain ⟨g13, h⟩ := px_gd h
      refine And.intro g13 ?_
      obtain ⟨g14, h⟩ := px_gd h
      refine And.intro g14 ?_
      obtain ⟨⟨vq15, σq15⟩, hq15, h⟩ := px_bind h
      dsimp only at h
      refine Exists.intro 0 (Exists.intro vq15 (Exists.intro σq15 (And.intro (Nat.le_of_ble_eq_true rfl) (And.intro (ok_M_byteOf hq15) ?_))))
      obtain ⟨g16, h⟩ := px_gd h
      refine And.intro g16 ?_
      exact ih _ _ _ h
theorem ok_M_retires_84_p46 {l : Launch} {rv : Int} {rσ : pS} {G : Nat → pL → List pV → pS → Prop} (H : px_R l 3 205 rv rσ G) : ∀ (a2 : Int) (σ : pS), f_M_retires_84_p46 a2 σ = some (rv, rσ) → G 46 [some (.inr 84), none, some (.inl a2), none, none, none] [] σ := by
  intro a2 σ h
  unfold f_M_retires_84_p46 at h
  refine H [((2, 0, 0, 0, []), 1), ((1, 2, 0, 0, []), 1), ((0, 0, 0, 1, []), 1), ((6, 0, 0, 0, []), 1), ((23, 196, 1, 0, [(0, 84)]), 3), ((2, 0, 0, 0, []), 1), ((17, 84, 132, 0, []), 3), ((1, 2, 0, 0, []), 1), ((2, 0, 0, 0, []), 1), ((17, 84, 121, 0, []), 3), ((1, 2, 0, 0, []), 1), ((19, 121, 20, 0, []), 1), ((20, 132, 20, 0, []), 1), ((0, 0, 0, 0, []), 1), ((3, 4, 0, 0, []), 2)] 46 _ _ _ (by decide +kernel) ?_
  obtain ⟨⟨vq5, σq5⟩, hq5, h⟩ := px_bind h
  dsimp only at h
  refine Exists.intro 0 (Exists.intro vq5 (Exists.intro σq5 (And.intro (Nat.le_of_ble_eq_true rfl) (And.intro (ok_M_undoesTo_84 hq5) ?_))))
  obtain ⟨g6, h⟩ := px_gd h
  refine And.intro g6 ?_
  obtain ⟨g7, h⟩ := px_gd h
  refine And.intro g7 ?_
  exact ok_M_retires_84_p68 H _ _ _ _ h
theorem ok_M_retires_84_w {l : Launch} {rv : Int} {rσ : pS} {G : Nat → pL → List pV → pS → Prop} (H : px_R l 3 205 rv rσ G) : ∀ (a1 : Int) (σ : pS), f_M_retires_84 a1 σ = some (rv, rσ) → G 0 [some (.inr 84), some (.inl a1), none, none, none, none] [] σ := by
  intro a1 σ h
  unfold f_M_retires_84 at h
  refine H [((2, 0, 0, 0, []), 1), ((23, 206, 0, 1, [(0, 84)]), 3), ((3, 2, 0, 0, []), 1), ((1, 2, 0, 0, []), 1), ((0, 0, 0, (-1), []), 1), ((13, 1, 11, 0, []), 3), ((28, 0, 0, 0, []), 1)] 0 _ _ _ (by decide +kernel) ?_
  obtain ⟨⟨vq1, σq1⟩, hq1, h⟩ := px_bind h
  dsimp only at h
  refine Exists.intro 0 (Exists.intro vq1 (Exists.intro σq1 (And.intro (Nat.le_of_ble_eq_true rfl) (And.intro (ok_M_oldestToRetire_84 hq1) ?_))))
  rcases px_ite h with ⟨c2, h⟩ | ⟨c2, h⟩
  · refine And.intro (fun hp => absurd c2 hp) (fun _ => ?_)
    exact (Prod.mk.inj (Option.some.inj h)).2
  · refine And.intro (fun _ => ?_) (fun hn => absurd c2 hn)
    refine H [((2, 0, 0, 0, []), 1), ((1, 2, 0, 0, []), 1), ((23, 207, 1, 1, [(0, 84)]), 3), ((3, 3, 0, 0, []), 1), ((1, 3, 0, 0, []), 1), ((14, 1, 46, 0, []), 3), ((2, 0, 0, 0, []), 1), ((1, 2, 0, 0, []), 1), ((1, 1, 0, 0, []), 1), ((0, 0, 0, 0, []), 1), ((23, 201, 3, 0, [(0, 84)]), 3), ((2, 0, 0, 0, []), 1), ((23, 208, 0, 1, [(0, 84)]), 3), ((14, 0, 36, 0, []), 3), ((28, 0, 0, 0, []), 1)] 11 _ _ _ (by decide +kernel) ?_
    obtain ⟨⟨vq3, σq3⟩, hq3, h⟩ := px_bind h
    dsimp only at h
    refine Exists.intro 0 (Exists.intro vq3 (Exists.intro σq3 (And.intro (Nat.le_of_ble_eq_true rfl) (And.intro (ok_M_areAllDone_84 hq3) ?_))))
    rcases px_ite h with ⟨c4, h⟩ | ⟨c4, h⟩
    · refine And.intro (fun hp => absurd c4 hp) (fun _ => ?_)
      obtain ⟨⟨vq17, σq17⟩, hq17, h⟩ := px_bind h
      dsimp only at h
      refine Exists.intro 0 (Exists.intro vq17 (Exists.intro σq17 (And.intro (Nat.le_of_ble_eq_true rfl) (And.intro (ok_M_feels_84 hq17) ?_))))
      obtain ⟨⟨vq18, σq18⟩, hq18, h⟩ := px_bind h
      dsimp only at h
      refine Exists.intro 2 (Exists.intro vq18 (Exists.intro σq18 (And.intro (Nat.le_of_ble_eq_true rfl) (And.intro (ok_M_isHeldBack_84 hq18) ?_))))
      rcases px_ite h with ⟨c19, h⟩ | ⟨c19, h⟩
      · refine And.intro (fun _ => ?_) (fun hn => absurd c19 hn)
        refine H [((2, 0, 0, 0, []), 1), ((2, 0, 0, 0, []), 1), ((16, 84, 66, 0, []), 3), ((0, 0, 0, 1, []), 1), ((6, 0, 0, 0, []), 1), ((18, 84, 66, 0, []), 3), ((29, 1, 0, 0, []), 0), ((29, 3, 0, 0, []), 0)] 36 _ _ _ (by decide +kernel) ?_
        exact ok_M_retires_84_p46 H _ _ h
      · refine And.intro (fun hp => absurd hp c19) (fun _ => ?_)
        exact (Prod.mk.inj (Option.some.inj h)).2
    · refine And.intro (fun _ => ?_) (fun hn => absurd c4 hn)
      refine H [((29, 1, 0, 0, []), 0), ((29, 3, 0, 0, []), 0)] 46 _ _ _ (by decide +kernel) ?_
      exact ok_M_retires_84_p46 H _ _ h
theorem ok_M_retires_84 {l : Launch} {a1 : Int} {σ : pS} {v : Int} {σ1 : pS} (h : f_M_retires_84 a1 σ = some (v, σ1)) : Con l 3 205 [.inr 84, .inl a1] σ v σ1 := Con_mk 2 6 rfl (by decide +kernel) (fun _ H => ok_M_retires_84_w H _ _ h)
theorem ok_M_areSourcesDone_84_p27 {l : Launch} {rv : Int} {rσ : pS} {G : Nat → pL → List pV → pS → Prop} (H : px_R l 2 197 rv rσ G) {k_2 : Int → Int → pS → Option (Int × pS)} (hk_2 : ∀ (a1 a2 : Int) (σ : pS), k_2 a1 a2 σ = some (rv, rσ) → G 2 [some (.inr 84), some (.inl a1), some (.inl a2), none] [] σ) : ∀ (a1 a2 s0 : Int) (σ : pS), f_M_areSourcesDone_84_p27 k_2 a1 a2 s0 σ = some (rv, rσ) → G 27 [some (.inr 84), some (.inl a1), some (.inl a2), none] [.inl s0] σ := by
  intro a1 a2 s0 σ h
  unfold f_M_areSourcesDone_84_p27 at h
  refine H [((3, 3, 0, 0, []), 1), ((1, 3, 0, 0, []), 1), ((0, 0, 0, (-1), []), 1), ((13, 0, 45, 0, []), 3), ((2, 0, 0, 0, []), 1), ((17, 84, 118, 0, []), 3), ((1, 3, 0, 0, []), 1), ((19, 118, 20, 0, []), 1), ((0, 0, 0, 2, []), 1), ((13, 0, 45, 0, []), 3), ((0, 0, 0, 0, []), 1), ((27, 1, 0, 0, []), 1)] 27 _ _ _ (by decide +kernel) ?_
  rcases px_ite h with ⟨c4, h⟩ | ⟨c4, h⟩
  · refine And.intro (fun _ => ?_) (fun hn => absurd c4 hn)
    refine H [((5, 2, 0, 1, []), 3), ((12, 0, 2, 0, []), 3), ((29, 3, 0, 0, []), 0)] 45 _ _ _ (by decide +kernel) ?_
    exact hk_2 _ _ _ h
  · refine And.intro (fun hp => absurd hp c4) (fun _ => ?_)
    obtain ⟨g5, h⟩ := px_gd h
    refine And.intro g5 ?_
    rcases px_ite h with ⟨c6, h⟩ | ⟨c6, h⟩
    · refine And.intro (fun _ => ?_) (fun hn => absurd c6 hn)
      refine H [((5, 2, 0, 1, []), 3), ((12, 0, 2, 0, []), 3), ((29, 3, 0, 0, []), 0)] 45 _ _ _ (by decide +kernel) ?_
      exact hk_2 _ _ _ h
    · refine And.intro (fun hp => absurd hp c6) (fun _ => ?_)
      refine And.intro (show (0 : Int) ≤ 0 ∧ (0 : Int) ≤ 1 from by decide) ?_
      exact Prod.mk.inj (Option.some.inj h)
theorem ok_M_areSourcesDone_84_p2 {l : Launch} {rv : Int} {rσ : pS} {G : Nat → pL → List pV → pS → Prop} (H : px_R l 2 197 rv rσ G) : ∀ (n : Nat) (a1 a2 : Int) (σ : pS), f_M_areSourcesDone_84_p2 n a1 a2 σ = some (rv, rσ) → G 2 [some (.inr 84), some (.inl a1), some (.inl a2), none] [] σ := by
  intro n
  induction n with
  | zero =>
    intro a1 a2 σ h
    unfold f_M_areSourcesDone_84_p2 at h
    cases h
  | succ n ih =>
    intro a1 a2 σ h
    unfold f_M_areSourcesDone_84_p2 at h
    refine H [((1, 2, 0, 0, []), 1), ((0, 0, 0, 8, []), 2), ((13, 3, 51, 0, []), 3), ((2, 0, 0, 0, []), 1), ((1, 1, 0, 0, []), 1), ((1, 2, 0, 0, []), 1), ((23, 172, 2, 1, [(0, 84)]), 3), ((14, 0, 26, 0, []), 3), ((2, 0, 0, 0, []), 1), ((1, 1, 0, 0, []), 1), ((1, 2, 0, 0, []), 1), ((23, 173, 2, 1, [(0, 84)]), 3), ((12, 0, 27, 0, []), 3)] 2 _ _ _ (by decide +kernel) ?_
    rcases px_ite h with ⟨c1, h⟩ | ⟨c1, h⟩
    · refine And.intro (fun _ => ?_) (fun hn => absurd c1 hn)
      refine H [((0, 0, 0, 1, []), 1), ((27, 1, 0, 0, []), 1)] 51 _ _ _ (by decide +kernel) ?_
      refine And.intro (show (0 : Int) ≤ 1 ∧ (1 : Int) ≤ 1 from by decide) ?_
      exact Prod.mk.inj (Option.some.inj h)
    · refine And.intro (fun hp => absurd hp c1) (fun _ => ?_)
      obtain ⟨⟨vq2, σq2⟩, hq2, h⟩ := px_bind h
      dsimp only at h
      refine Exists.intro 0 (Exists.intro vq2 (Exists.intro σq2 (And.intro (Nat.le_of_ble_eq_true rfl) (And.intro (ok_M_doesRead_84 hq2) ?_))))
      rcases px_ite h with ⟨c3, h⟩ | ⟨c3, h⟩
      · refine And.intro (fun _ => ?_) (fun hn => absurd c3 hn)
        refine H [((0, 0, 0, (-1), []), 1)] 26 _ _ _ (by decide +kernel) ?_
        exact ok_M_areSourcesDone_84_p27 H ih _ _ _ _ h
      · refine And.intro (fun hp => absurd hp c3) (fun _ => ?_)
        obtain ⟨⟨vq7, σq7⟩, hq7, h⟩ := px_bind h
        dsimp only at h
        refine Exists.intro 1 (Exists.intro vq7 (Exists.intro σq7 (And.intro (Nat.le_of_ble_eq_true rfl) (And.intro (ok_M_giverOf_84 hq7) ?_))))
        exact ok_M_areSourcesDone_84_p27 H ih _ _ _ _ h
theorem ok_M_areSourcesDone_84_w {l : Launch} {rv : Int} {rσ : pS} {G : Nat → pL → List pV → pS → Prop} (H : px_R l 2 197 rv rσ G) : ∀ (a1 : Int) (σ : pS), f_M_areSourcesDone_84 a1 σ = some (rv, rσ) → G 0 [some (.inr 84), some (.inl a1), none, none] [] σ := by
  intro a1 σ h
  unfold f_M_areSourcesDone_84 at h
  refine H [((0, 0, 0, 0, []), 1), ((3, 2, 0, 0, []), 1)] 0 _ _ _ (by decide +kernel) ?_
  exact ok_M_areSourcesDone_84_p2 H _ _ _ _ h
theorem ok_M_areSourcesDone_84 {l : Launch} {a1 : Int} {σ : pS} {v : Int} {σ1 : pS} (h : f_M_areSourcesDone_84 a1 σ = some (v, σ1)) : Con l 2 197 [.inr 84, .inl a1] σ v σ1 := Con_mk 2 4 rfl (by decide +kernel) (fun _ H => ok_M_areSourcesDone_84_w H _ _ h)
theorem ok_M_areStoresDone_84_p2 {l : Launch} {rv : Int} {rσ : pS} {G : Nat → pL → List pV → pS → Prop} (H : px_R l 0 199 rv rσ G) : ∀ (n : Nat) (a1 a2 : Int) (σ : pS), f_M_areStoresDone_84_p2 n a1 a2 σ = some (rv, rσ) → G 2 [some (.inr 84), some (.inl a1), some (.inl a2)] [] σ := by
  intro n
  induction n with
  | zero =>
    intro a1 a2 σ h
    unfold f_M_areStoresDone_84_p2 at h
    cases h
  | succ n ih =>
    intro a1 a2 σ h
    unfold f_M_areStoresDone_84_p2 at h
    refine H [((1, 2, 0, 0, []), 1), ((1, 1, 0, 0, []), 1), ((13, 3, 35, 0, []), 3), ((2, 0, 0, 0, []), 1), ((17, 84, 88, 0, []), 3), ((1, 2, 0, 0, []), 1), ((19, 88, 20, 0, []), 1), ((0, 0, 0, 3, []), 1), ((13, 1, 29, 0, []), 3), ((2, 0, 0, 0, []), 1), ((17, 84, 118, 0, []), 3), ((1, 2, 0, 0, []), 1), ((19, 118, 20, 0, []), 1), ((0, 0, 0, 2, []), 1), ((13, 0, 29, 0, []), 3), ((0, 0, 0, 0, []), 1), ((27, 1, 0, 0, []), 1)] 2 _ _ _ (by decide +kernel) ?_
    rcases px_ite h with ⟨c1, h⟩ | ⟨c1, h⟩
    · refine And.intro (fun _ => ?_) (fun hn => absurd c1 hn)
      refine H [((0, 0, 0, 1, []), 1), ((27, 1, 0, 0, []), 1)] 35 _ _ _ (by decide +kernel) ?_
      refine And.intro (show (0 : Int) ≤ 1 ∧ (1 : Int) ≤ 1 from by decide) ?_
      exact Prod.mk.inj (Option.some.inj h)
    · refine And.intro (fun hp => absurd hp c1) (fun _ => ?_)
      obtain ⟨g2, h⟩ := px_gd h
      refine And.intro g2 ?_
      rcases px_ite h with ⟨c3, h⟩ | ⟨c3, h⟩
      · refine And.intro (fun hp => absurd c3 hp) (fun _ => ?_)
        obtain ⟨g4, h⟩ := px_gd h
        refine And.intro g4 ?_
        rcases px_ite h with ⟨c5, h⟩ | ⟨c5, h⟩
        · refine And.intro (fun _ => ?_) (fun hn => absurd c5 hn)
          refine H [((5, 2, 0, 1, []), 3), ((12, 0, 2, 0, []), 3)] 29 _ _ _ (by decide +kernel) ?_
          exact ih _ _ _ h
        · refine And.intro (fun hp => absurd hp c5) (fun _ => ?_)
          refine And.intro (show (0 : Int) ≤ 0 ∧ (0 : Int) ≤ 1 from by decide) ?_
          exact Prod.mk.inj (Option.some.inj h)
      · refine And.intro (fun _ => ?_) (fun hn => absurd c3 hn)
        refine H [((5, 2, 0, 1, []), 3), ((12, 0, 2, 0, []), 3)] 29 _ _ _ (by decide +kernel) ?_
        exact ih _ _ _ h
theorem ok_M_areStoresDone_84_w {l : Launch} {rv : Int} {rσ : pS} {G : Nat → pL → List pV → pS → Prop} (H : px_R l 0 199 rv rσ G) : ∀ (a1 : Int) (σ : pS), f_M_areStoresDone_84 a1 σ = some (rv, rσ) → G 0 [some (.inr 84), some (.inl a1), none] [] σ := by
  intro a1 σ h
  unfold f_M_areStoresDone_84 at h
  refine H [((0, 0, 0, 0, []), 1), ((3, 2, 0, 0, []), 1)] 0 _ _ _ (by decide +kernel) ?_
  exact ok_M_areStoresDone_84_p2 H _ _ _ _ h
theorem ok_M_areStoresDone_84 {l : Launch} {a1 : Int} {σ : pS} {v : Int} {σ1 : pS} (h : f_M_areStoresDone_84 a1 σ = some (v, σ1)) : Con l 0 199 [.inr 84, .inl a1] σ v σ1 := Con_mk 2 3 rfl (by decide +kernel) (fun _ H => ok_M_areStoresDone_84_w H _ _ h)
theorem ok_M_isKeptBack_84_p47 {l : Launch} {rv : Int} {rσ : pS} {G : Nat → pL → List pV → pS → Prop} (H : px_R l 1 198 rv rσ G) : ∀ (n : Nat) (a1 a2 : Int) (σ : pS), f_M_isKeptBack_84_p47 n a1 a2 σ = some (rv, rσ) → G 47 [some (.inr 84), some (.inl a1), some (.inl a2)] [] σ := by
  intro n
  induction n with
  | zero =>
    intro a1 a2 σ h
    unfold f_M_isKeptBack_84_p47 at h
    cases h
  | succ n ih =>
    intro a1 a2 σ h
    unfold f_M_isKeptBack_84_p47 at h
    refine H [((1, 2, 0, 0, []), 1), ((14, 2, 98, 0, []), 3), ((2, 0, 0, 0, []), 1), ((17, 84, 88, 0, []), 3), ((1, 2, 0, 0, []), 1), ((19, 88, 20, 0, []), 1), ((0, 0, 0, 3, []), 1), ((13, 1, 92, 0, []), 3), ((2, 0, 0, 0, []), 1), ((17, 84, 87, 0, []), 3), ((1, 2, 0, 0, []), 1), ((19, 87, 20, 0, []), 1), ((2, 0, 0, 0, []), 1), ((17, 84, 87, 0, []), 3), ((1, 1, 0, 0, []), 1), ((19, 87, 20, 0, []), 1), ((13, 1, 92, 0, []), 3), ((2, 0, 0, 0, []), 1), ((17, 84, 118, 0, []), 3), ((1, 2, 0, 0, []), 1), ((19, 118, 20, 0, []), 1), ((0, 0, 0, 2, []), 1), ((13, 0, 90, 0, []), 3), ((0, 0, 0, 1, []), 1), ((12, 0, 91, 0, []), 3), ((27, 1, 0, 0, []), 1)] 47 _ _ _ (by decide +kernel) ?_
    rcases px_ite h with ⟨c4, h⟩ | ⟨c4, h⟩
    · refine And.intro (fun _ => ?_) (fun hn => absurd c4 hn)
      refine H [((0, 0, 0, 0, []), 1), ((27, 1, 0, 0, []), 1)] 98 _ _ _ (by decide +kernel) ?_
      refine And.intro (show (0 : Int) ≤ 0 ∧ (0 : Int) ≤ 1 from by decide) ?_
      exact Prod.mk.inj (Option.some.inj h)
    · refine And.intro (fun hp => absurd hp c4) (fun _ => ?_)
      obtain ⟨g5, h⟩ := px_gd h
      refine And.intro g5 ?_
      rcases px_ite h with ⟨c6, h⟩ | ⟨c6, h⟩
      · refine And.intro (fun hp => absurd c6 hp) (fun _ => ?_)
        obtain ⟨g7, h⟩ := px_gd h
        refine And.intro g7 ?_
        obtain ⟨g8, h⟩ := px_gd h
        refine And.intro g8 ?_
        rcases px_ite h with ⟨c9, h⟩ | ⟨c9, h⟩
        · refine And.intro (fun hp => absurd c9 hp) (fun _ => ?_)
          obtain ⟨g10, h⟩ := px_gd h
          refine And.intro g10 ?_
          rcases px_ite h with ⟨c11, h⟩ | ⟨c11, h⟩
          · refine And.intro (fun _ => ?_) (fun hn => absurd c11 hn)
            refine H [((0, 0, 0, 0, []), 1), ((27, 1, 0, 0, []), 1)] 90 _ _ _ (by decide +kernel) ?_
            refine And.intro (show (0 : Int) ≤ 0 ∧ (0 : Int) ≤ 1 from by decide) ?_
            exact Prod.mk.inj (Option.some.inj h)
          · refine And.intro (fun hp => absurd hp c11) (fun _ => ?_)
            refine And.intro (show (0 : Int) ≤ 1 ∧ (1 : Int) ≤ 1 from by decide) ?_
            exact Prod.mk.inj (Option.some.inj h)
        · refine And.intro (fun _ => ?_) (fun hn => absurd c9 hn)
          refine H [((5, 2, 0, (-1), []), 3), ((12, 0, 47, 0, []), 3)] 92 _ _ _ (by decide +kernel) ?_
          exact ih _ _ _ h
      · refine And.intro (fun _ => ?_) (fun hn => absurd c6 hn)
        refine H [((5, 2, 0, (-1), []), 3), ((12, 0, 47, 0, []), 3)] 92 _ _ _ (by decide +kernel) ?_
        exact ih _ _ _ h
theorem ok_M_isKeptBack_84_p31 {l : Launch} {rv : Int} {rσ : pS} {G : Nat → pL → List pV → pS → Prop} (H : px_R l 1 198 rv rσ G) : ∀ (a1 : Int) (σ : pS), f_M_isKeptBack_84_p31 a1 σ = some (rv, rσ) → G 31 [some (.inr 84), some (.inl a1), none] [] σ := by
  intro a1 σ h
  unfold f_M_isKeptBack_84_p31 at h
  refine H [((2, 0, 0, 0, []), 1), ((17, 84, 87, 0, []), 3), ((1, 1, 0, 0, []), 1), ((19, 87, 20, 0, []), 1), ((0, 0, 0, (-1), []), 1), ((13, 1, 43, 0, []), 3), ((0, 0, 0, 0, []), 1), ((27, 1, 0, 0, []), 1)] 31 _ _ _ (by decide +kernel) ?_
  obtain ⟨g2, h⟩ := px_gd h
  refine And.intro g2 ?_
  rcases px_ite h with ⟨c3, h⟩ | ⟨c3, h⟩
  · refine And.intro (fun hp => absurd c3 hp) (fun _ => ?_)
    refine And.intro (show (0 : Int) ≤ 0 ∧ (0 : Int) ≤ 1 from by decide) ?_
    exact Prod.mk.inj (Option.some.inj h)
  · refine And.intro (fun _ => ?_) (fun hn => absurd c3 hn)
    refine H [((1, 1, 0, 0, []), 1), ((0, 0, 0, 1, []), 1), ((6, 1, 0, 0, []), 1), ((3, 2, 0, 0, []), 1)] 43 _ _ _ (by decide +kernel) ?_
    exact ok_M_isKeptBack_84_p47 H _ _ _ _ h
theorem ok_M_isKeptBack_84_w {l : Launch} {rv : Int} {rσ : pS} {G : Nat → pL → List pV → pS → Prop} (H : px_R l 1 198 rv rσ G) : ∀ (a1 : Int) (σ : pS), f_M_isKeptBack_84 a1 σ = some (rv, rσ) → G 0 [some (.inr 84), some (.inl a1), none] [] σ := by
  intro a1 σ h
  unfold f_M_isKeptBack_84 at h
  refine H [((2, 0, 0, 0, []), 1), ((16, 84, 70, 0, []), 3), ((14, 0, 31, 0, []), 3), ((2, 0, 0, 0, []), 1), ((17, 84, 88, 0, []), 3), ((1, 1, 0, 0, []), 1), ((19, 88, 20, 0, []), 1), ((0, 0, 0, 2, []), 1), ((13, 1, 31, 0, []), 3), ((2, 0, 0, 0, []), 1), ((1, 1, 0, 0, []), 1), ((23, 199, 1, 1, [(0, 84)]), 3), ((14, 1, 29, 0, []), 3), ((0, 0, 0, 1, []), 1), ((12, 0, 30, 0, []), 3), ((27, 1, 0, 0, []), 1)] 0 _ _ _ (by decide +kernel) ?_
  rcases px_ite h with ⟨c1, h⟩ | ⟨c1, h⟩
  · refine And.intro (fun _ => ?_) (fun hn => absurd c1 hn)
    exact ok_M_isKeptBack_84_p31 H _ _ h
  · refine And.intro (fun hp => absurd hp c1) (fun _ => ?_)
    obtain ⟨g12, h⟩ := px_gd h
    refine And.intro g12 ?_
    rcases px_ite h with ⟨c13, h⟩ | ⟨c13, h⟩
    · refine And.intro (fun hp => absurd c13 hp) (fun _ => ?_)
      obtain ⟨⟨vq14, σq14⟩, hq14, h⟩ := px_bind h
      dsimp only at h
      refine Exists.intro 0 (Exists.intro vq14 (Exists.intro σq14 (And.intro (Nat.le_of_ble_eq_true rfl) (And.intro (ok_M_areStoresDone_84 hq14) ?_))))
      rcases px_ite h with ⟨c15, h⟩ | ⟨c15, h⟩
      · refine And.intro (fun hp => absurd c15 hp) (fun _ => ?_)
        refine And.intro (show (0 : Int) ≤ 1 ∧ (1 : Int) ≤ 1 from by decide) ?_
        exact Prod.mk.inj (Option.some.inj h)
      · refine And.intro (fun _ => ?_) (fun hn => absurd c15 hn)
        refine H [((0, 0, 0, 0, []), 1), ((27, 1, 0, 0, []), 1)] 29 _ _ _ (by decide +kernel) ?_
        refine And.intro (show (0 : Int) ≤ 0 ∧ (0 : Int) ≤ 1 from by decide) ?_
        exact Prod.mk.inj (Option.some.inj h)
    · refine And.intro (fun _ => ?_) (fun hn => absurd c13 hn)
      exact ok_M_isKeptBack_84_p31 H _ _ h
theorem ok_M_isKeptBack_84 {l : Launch} {a1 : Int} {σ : pS} {v : Int} {σ1 : pS} (h : f_M_isKeptBack_84 a1 σ = some (v, σ1)) : Con l 1 198 [.inr 84, .inl a1] σ v σ1 := Con_mk 2 3 rfl (by decide +kernel) (fun _ H => ok_M_isKeptBack_84_w H _ _ h)
theorem ok_M_delayOf_84_p2 {l : Launch} {rv : Int} {rσ : pS} {G : Nat → pL → List pV → pS → Prop} (H : px_R l 2 202 rv rσ G) : ∀ (n : Nat) (a1 a2 : Int) (σ : pS), f_M_delayOf_84_p2 n a1 a2 σ = some (rv, rσ) → G 2 [some (.inr 84), some (.inl a1), some (.inl a2), none] [] σ := by
  intro n
  induction n with
  | zero =>
    intro a1 a2 σ h
    unfold f_M_delayOf_84_p2 at h
    cases h
  | succ n ih =>
    intro a1 a2 σ h
    unfold f_M_delayOf_84_p2 at h
    refine H [((1, 2, 0, 0, []), 1), ((2, 0, 0, 0, []), 1), ((16, 84, 27, 0, []), 3), ((13, 3, 89, 0, []), 3), ((2, 0, 0, 0, []), 1), ((17, 84, 104, 0, []), 3), ((1, 2, 0, 0, []), 1), ((19, 104, 16, 0, []), 1), ((0, 0, 0, 100, []), 2), ((13, 1, 83, 0, []), 3), ((2, 0, 0, 0, []), 1), ((2, 0, 0, 0, []), 1), ((17, 84, 106, 0, []), 3), ((1, 2, 0, 0, []), 1), ((19, 106, 16, 0, []), 1), ((2, 0, 0, 0, []), 1), ((17, 84, 107, 0, []), 3), ((1, 2, 0, 0, []), 1), ((19, 107, 16, 0, []), 1), ((23, 203, 2, 1, [(0, 84)]), 3), ((0, 0, 0, 1, []), 1), ((13, 0, 44, 0, []), 3), ((12, 0, 83, 0, []), 3), ((5, 2, 0, 1, []), 3), ((12, 0, 2, 0, []), 3)] 2 _ _ _ (by decide +kernel) ?_
    rcases px_ite h with ⟨c1, h⟩ | ⟨c1, h⟩
    · refine And.intro (fun _ => ?_) (fun hn => absurd c1 hn)
      refine H [((2, 0, 0, 0, []), 1), ((17, 84, 88, 0, []), 3), ((1, 1, 0, 0, []), 1), ((19, 88, 20, 0, []), 1), ((0, 0, 0, 2, []), 1), ((13, 1, 103, 0, []), 3), ((0, 0, 0, 2, []), 1), ((12, 0, 104, 0, []), 3), ((27, 0, 0, 0, []), 1)] 89 _ _ _ (by decide +kernel) ?_
      obtain ⟨g2, h⟩ := px_gd h
      refine And.intro g2 ?_
      rcases px_ite h with ⟨c3, h⟩ | ⟨c3, h⟩
      · refine And.intro (fun hp => absurd c3 hp) (fun _ => ?_)
        exact Prod.mk.inj (Option.some.inj h)
      · refine And.intro (fun _ => ?_) (fun hn => absurd c3 hn)
        refine H [((0, 0, 0, 1, []), 1), ((27, 0, 0, 0, []), 1)] 103 _ _ _ (by decide +kernel) ?_
        exact Prod.mk.inj (Option.some.inj h)
    · refine And.intro (fun hp => absurd hp c1) (fun _ => ?_)
      obtain ⟨g4, h⟩ := px_gd h
      refine And.intro g4 ?_
      rcases px_ite h with ⟨c5, h⟩ | ⟨c5, h⟩
      · refine And.intro (fun hp => absurd c5 hp) (fun _ => ?_)
        obtain ⟨g6, h⟩ := px_gd h
        refine And.intro g6 ?_
        obtain ⟨g7, h⟩ := px_gd h
        refine And.intro g7 ?_
        obtain ⟨⟨vq8, σq8⟩, hq8, h⟩ := px_bind h
        dsimp only at h
        refine Exists.intro 1 (Exists.intro vq8 (Exists.intro σq8 (And.intro (Nat.le_of_ble_eq_true rfl) (And.intro (ok_M_reckonsTo_84 hq8) ?_))))
        rcases px_ite h with ⟨c9, h⟩ | ⟨c9, h⟩
        · refine And.intro (fun _ => ?_) (fun hn => absurd c9 hn)
          refine H [((2, 0, 0, 0, []), 1), ((2, 0, 0, 0, []), 1), ((17, 84, 105, 0, []), 3), ((1, 2, 0, 0, []), 1), ((19, 105, 16, 0, []), 1), ((2, 0, 0, 0, []), 1), ((17, 84, 106, 0, []), 3), ((1, 2, 0, 0, []), 1), ((19, 106, 16, 0, []), 1), ((23, 203, 2, 1, [(0, 84)]), 3), ((3, 3, 0, 0, []), 1), ((1, 3, 0, 0, []), 1), ((0, 0, 0, 1, []), 1), ((13, 3, 70, 0, []), 3), ((0, 0, 0, 1, []), 1), ((12, 0, 82, 0, []), 3), ((27, 0, 0, 0, []), 1)] 44 _ _ _ (by decide +kernel) ?_
          obtain ⟨g10, h⟩ := px_gd h
          refine And.intro g10 ?_
          obtain ⟨g11, h⟩ := px_gd h
          refine And.intro g11 ?_
          obtain ⟨⟨vq12, σq12⟩, hq12, h⟩ := px_bind h
          dsimp only at h
          refine Exists.intro 1 (Exists.intro vq12 (Exists.intro σq12 (And.intro (Nat.le_of_ble_eq_true rfl) (And.intro (ok_M_reckonsTo_84 hq12) ?_))))
          rcases px_ite h with ⟨c13, h⟩ | ⟨c13, h⟩
          · refine And.intro (fun _ => ?_) (fun hn => absurd c13 hn)
            refine H [((1, 3, 0, 0, []), 1), ((0, 0, 0, 20, []), 2), ((13, 5, 81, 0, []), 3), ((0, 0, 0, 20, []), 2), ((12, 0, 82, 0, []), 3), ((27, 0, 0, 0, []), 1)] 70 _ _ _ (by decide +kernel) ?_
            rcases px_ite h with ⟨c14, h⟩ | ⟨c14, h⟩
            · refine And.intro (fun _ => ?_) (fun hn => absurd c14 hn)
              refine H [((1, 3, 0, 0, []), 1), ((27, 0, 0, 0, []), 1)] 81 _ _ _ (by decide +kernel) ?_
              exact Prod.mk.inj (Option.some.inj h)
            · refine And.intro (fun hp => absurd hp c14) (fun _ => ?_)
              exact Prod.mk.inj (Option.some.inj h)
          · refine And.intro (fun hp => absurd hp c13) (fun _ => ?_)
            exact Prod.mk.inj (Option.some.inj h)
        · refine And.intro (fun hp => absurd hp c9) (fun _ => ?_)
          exact ih _ _ _ h
      · refine And.intro (fun _ => ?_) (fun hn => absurd c5 hn)
        refine H [((5, 2, 0, 1, []), 3), ((12, 0, 2, 0, []), 3)] 83 _ _ _ (by decide +kernel) ?_
        exact ih _ _ _ h
theorem ok_M_delayOf_84_w {l : Launch} {rv : Int} {rσ : pS} {G : Nat → pL → List pV → pS → Prop} (H : px_R l 2 202 rv rσ G) : ∀ (a1 : Int) (σ : pS), f_M_delayOf_84 a1 σ = some (rv, rσ) → G 0 [some (.inr 84), some (.inl a1), none, none] [] σ := by
  intro a1 σ h
  unfold f_M_delayOf_84 at h
  refine H [((0, 0, 0, 0, []), 1), ((3, 2, 0, 0, []), 1)] 0 _ _ _ (by decide +kernel) ?_
  exact ok_M_delayOf_84_p2 H _ _ _ _ h
theorem ok_M_delayOf_84 {l : Launch} {a1 : Int} {σ : pS} {v : Int} {σ1 : pS} (h : f_M_delayOf_84 a1 σ = some (v, σ1)) : Con l 2 202 [.inr 84, .inl a1] σ v σ1 := Con_mk 2 4 rfl (by decide +kernel) (fun _ H => ok_M_delayOf_84_w H _ _ h)
theorem ok_M_goesOff_84_w {l : Launch} {rv : Int} {rσ : pS} {G : Nat → pL → List pV → pS → Prop} (H : px_R l 3 200 rv rσ G) : ∀ (a1 a2 : Int) (σ : pS), f_M_goesOff_84 a1 a2 σ = some (rv, rσ) → G 0 [some (.inr 84), some (.inl a1), some (.inl a2)] [] σ := by
  intro a1 a2 σ h
  unfold f_M_goesOff_84 at h
  refine H [((2, 0, 0, 0, []), 1), ((0, 0, 0, 25173, []), 3), ((2, 0, 0, 0, []), 1), ((16, 84, 0, 0, []), 3), ((6, 2, 0, 0, []), 1), ((0, 0, 0, 13849, []), 3), ((6, 0, 0, 0, []), 1), ((0, 0, 0, 65536, []), 3), ((7, 1, 0, 0, []), 1), ((18, 84, 0, 0, []), 3), ((2, 0, 0, 0, []), 1), ((1, 1, 0, 0, []), 1), ((1, 2, 0, 0, []), 1), ((2, 0, 0, 0, []), 1), ((16, 84, 0, 0, []), 3), ((0, 0, 0, 10, []), 2), ((7, 1, 0, 0, []), 1), ((23, 201, 3, 0, [(0, 84)]), 3), ((2, 0, 0, 0, []), 1), ((17, 84, 118, 0, []), 3), ((1, 1, 0, 0, []), 1), ((0, 0, 0, 1, []), 1), ((20, 118, 20, 0, []), 1), ((2, 0, 0, 0, []), 1), ((17, 84, 119, 0, []), 3), ((1, 1, 0, 0, []), 1), ((1, 2, 0, 0, []), 1), ((2, 0, 0, 0, []), 1), ((1, 1, 0, 0, []), 1), ((23, 202, 1, 1, [(0, 84)]), 3), ((6, 0, 0, 0, []), 1), ((20, 119, 20, 0, []), 1), ((28, 0, 0, 0, []), 1)] 0 _ _ _ (by decide +kernel) ?_
  refine And.intro (show (65536 : Int) ≠ 0 from by decide) (fun r1 hr1 => ?_)
  replace hr1 : r1 = pRem (pw ((pw (25173 * (σ 84 0))) + 13849)) 65536 := hr1.trans (px_dr_1 _ _)
  try rw [← hr1] at h
  refine And.intro (show (10 : Int) ≠ 0 from by decide) (fun r2 hr2 => ?_)
  replace hr2 : r2 = pRem r1 10 := hr2.trans (px_dr_1 _ _)
  try rw [← hr2] at h
  obtain ⟨⟨vq3, σq3⟩, hq3, h⟩ := px_bind h
  dsimp only at h
  refine Exists.intro 0 (Exists.intro vq3 (Exists.intro σq3 (And.intro (Nat.le_of_ble_eq_true rfl) (And.intro (ok_M_feels_84 hq3) ?_))))
  obtain ⟨g4, h⟩ := px_gd h
  refine And.intro g4 ?_
  obtain ⟨⟨vq5, σq5⟩, hq5, h⟩ := px_bind h
  dsimp only at h
  refine Exists.intro 2 (Exists.intro vq5 (Exists.intro σq5 (And.intro (Nat.le_of_ble_eq_true rfl) (And.intro (ok_M_delayOf_84 hq5) ?_))))
  obtain ⟨g6, h⟩ := px_gd h
  refine And.intro g6 ?_
  exact (Prod.mk.inj (Option.some.inj h)).2
theorem ok_M_goesOff_84 {l : Launch} {a1 a2 : Int} {σ : pS} {v : Int} {σ1 : pS} (h : f_M_goesOff_84 a1 a2 σ = some (v, σ1)) : Con l 3 200 [.inr 84, .inl a1, .inl a2] σ v σ1 := Con_mk 3 3 rfl (by decide +kernel) (fun _ H => ok_M_goesOff_84_w H _ _ _ h)
