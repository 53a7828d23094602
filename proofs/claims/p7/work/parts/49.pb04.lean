theorem ok_Law_readProduct_57_1_p13 {l : Launch} {rv : Int} {rσ : pS} {G : Nat → pL → List pV → pS → Prop} {fd fr : Nat} {rc : Nat → Int → pS → Option (Int × pS)} (hrc : ∀ w a σ v σ1, rc w a σ = some (v, σ1) → Con l fd (mi_rdS w) [.inr 57, .inr 1, .inl a] σ v σ1) (hfd : fd + 1 ≤ fr) (hfr : 1 ≤ fr) (H : px_R l fr 23 rv rσ G) : ∀ (n : Nat) (a2 a3 : Int) (σ : pS), f_Law_readProduct_57_1_p13 rc n a2 a3 σ = some (rv, rσ) → G 13 [some (.inr 57), some (.inr 1), some (.inl a2), some (.inl a3), none] [] σ := by
  intro n
  induction n with
  | zero =>
    intro a2 a3 σ h
    unfold f_Law_readProduct_57_1_p13 at h
    cases h
  | succ n ih =>
    intro a2 a3 σ h
    unfold f_Law_readProduct_57_1_p13 at h
    refine H [((1, 3, 0, 0, []), 1), ((0, 0, 0, 240, []), 3), ((13, 3, 71, 0, []), 3), ((2, 1, 0, 0, []), 1), ((23, 19, 0, 1, [(0, 1)]), 3), ((0, 0, 0, 42, []), 2), ((0, 0, 0, 47, []), 2), ((0, 0, 0, 37, []), 2), ((24, 31, 4, 1, []), 3), ((14, 0, 71, 0, []), 3), ((2, 1, 0, 0, []), 1), ((23, 19, 0, 1, [(0, 1)]), 3), ((3, 4, 0, 0, []), 2), ((2, 1, 0, 0, []), 1), ((23, 21, 0, 0, [(0, 1)]), 3), ((2, 0, 0, 0, []), 1), ((2, 1, 0, 0, []), 1), ((1, 2, 0, 0, []), 1), ((23, 24, 2, 1, [(0, 57)]), 3), ((14, 1, 57, 0, []), 3), ((0, 0, 0, 0, []), 1), ((27, 1, 0, 0, []), 1)] 13 _ _ _ (by decide +kernel) ?_
    rcases px_ite h with ⟨c3, h⟩ | ⟨c3, h⟩
    · refine And.intro (fun _ => ?_) (fun hn => absurd c3 hn)
      refine H [((0, 0, 0, 1, []), 1), ((27, 1, 0, 0, []), 1)] 71 _ _ _ (by decide +kernel) ?_
      refine And.intro (show (0 : Int) ≤ 1 ∧ (1 : Int) ≤ 1 from by decide) ?_
      exact Prod.mk.inj (Option.some.inj h)
    · refine And.intro (fun hp => absurd hp c3) (fun _ => ?_)
      obtain ⟨⟨vq4, σq4⟩, hq4, h⟩ := px_bind h
      dsimp only at h
      refine Exists.intro 0 (Exists.intro vq4 (Exists.intro σq4 (And.intro (Nat.le_trans (Nat.le_of_ble_eq_true rfl) hfr) (And.intro (ok_Tape_sign_1 hq4) ?_))))
      obtain ⟨⟨vq5, σq5⟩, hq5, h⟩ := px_bind h
      dsimp only at h
      refine Exists.intro 0 (Exists.intro vq5 (Exists.intro σq5 (And.intro (Nat.le_trans (Nat.le_of_ble_eq_true rfl) hfr) (And.intro (ok_Law_isOneOf hq5) ?_))))
      rcases px_ite h with ⟨c6, h⟩ | ⟨c6, h⟩
      · refine And.intro (fun _ => ?_) (fun hn => absurd c6 hn)
        refine H [((0, 0, 0, 1, []), 1), ((27, 1, 0, 0, []), 1)] 71 _ _ _ (by decide +kernel) ?_
        refine And.intro (show (0 : Int) ≤ 1 ∧ (1 : Int) ≤ 1 from by decide) ?_
        exact Prod.mk.inj (Option.some.inj h)
      · refine And.intro (fun hp => absurd hp c6) (fun _ => ?_)
        obtain ⟨⟨vq7, σq7⟩, hq7, h⟩ := px_bind h
        dsimp only at h
        refine Exists.intro 0 (Exists.intro vq7 (Exists.intro σq7 (And.intro (Nat.le_trans (Nat.le_of_ble_eq_true rfl) hfr) (And.intro (ok_Tape_sign_1 hq7) ?_))))
        obtain ⟨⟨vq8, σq8⟩, hq8, h⟩ := px_bind h
        dsimp only at h
        refine Exists.intro 0 (Exists.intro vq8 (Exists.intro σq8 (And.intro (Nat.le_trans (Nat.le_of_ble_eq_true rfl) hfr) (And.intro (ok_Tape_step_1 hq8) ?_))))
        obtain ⟨⟨vq9, σq9⟩, hq9, h⟩ := px_bind h
        dsimp only at h
        refine Exists.intro fd (Exists.intro vq9 (Exists.intro σq9 (And.intro hfd (And.intro (hrc 2 _ _ _ _ hq9) ?_))))
        rcases px_ite h with ⟨c10, h⟩ | ⟨c10, h⟩
        · refine And.intro (fun hp => absurd c10 hp) (fun _ => ?_)
          refine And.intro (show (0 : Int) ≤ 0 ∧ (0 : Int) ≤ 1 from by decide) ?_
          exact Prod.mk.inj (Option.some.inj h)
        · refine And.intro (fun _ => ?_) (fun hn => absurd c10 hn)
          refine H [((2, 0, 0, 0, []), 1), ((1, 4, 0, 0, []), 2), ((0, 0, 0, 0, []), 1), ((23, 29, 2, 1, [(0, 57)]), 3), ((11, 0, 0, 0, []), 1), ((5, 3, 0, 1, []), 3), ((12, 0, 13, 0, []), 3), ((29, 4, 0, 0, []), 0)] 57 _ _ _ (by decide +kernel) ?_
          obtain ⟨⟨vq11, σq11⟩, hq11, h⟩ := px_bind h
          dsimp only at h
          refine Exists.intro 0 (Exists.intro vq11 (Exists.intro σq11 (And.intro (Nat.le_trans (Nat.le_of_ble_eq_true rfl) hfr) (And.intro (ok_Law_addStep_57 hq11) ?_))))
          exact ih _ _ _ h
theorem ok_Law_readProduct_57_1_w {l : Launch} {rv : Int} {rσ : pS} {G : Nat → pL → List pV → pS → Prop} {fd fr : Nat} {rc : Nat → Int → pS → Option (Int × pS)} (hrc : ∀ w a σ v σ1, rc w a σ = some (v, σ1) → Con l fd (mi_rdS w) [.inr 57, .inr 1, .inl a] σ v σ1) (hfd : fd + 1 ≤ fr) (hfr : 1 ≤ fr) (H : px_R l fr 23 rv rσ G) : ∀ (a2 : Int) (σ : pS), f_Law_readProduct_57_1 rc a2 σ = some (rv, rσ) → G 0 [some (.inr 57), some (.inr 1), some (.inl a2), none, none] [] σ := by
  intro a2 σ h
  unfold f_Law_readProduct_57_1 at h
  refine H [((2, 0, 0, 0, []), 1), ((2, 1, 0, 0, []), 1), ((1, 2, 0, 0, []), 1), ((23, 24, 2, 1, [(0, 57)]), 3), ((14, 1, 11, 0, []), 3), ((0, 0, 0, 0, []), 1), ((27, 1, 0, 0, []), 1)] 0 _ _ _ (by decide +kernel) ?_
  obtain ⟨⟨vq1, σq1⟩, hq1, h⟩ := px_bind h
  dsimp only at h
  refine Exists.intro fd (Exists.intro vq1 (Exists.intro σq1 (And.intro hfd (And.intro (hrc 2 _ _ _ _ hq1) ?_))))
  rcases px_ite h with ⟨c2, h⟩ | ⟨c2, h⟩
  · refine And.intro (fun hp => absurd c2 hp) (fun _ => ?_)
    refine And.intro (show (0 : Int) ≤ 0 ∧ (0 : Int) ≤ 1 from by decide) ?_
    exact Prod.mk.inj (Option.some.inj h)
  · refine And.intro (fun _ => ?_) (fun hn => absurd c2 hn)
    refine H [((0, 0, 0, 0, []), 1), ((3, 3, 0, 0, []), 1)] 11 _ _ _ (by decide +kernel) ?_
    exact ok_Law_readProduct_57_1_p13 hrc hfd hfr H _ _ _ _ h
theorem ok_Law_readProduct_57_1 {l : Launch} {fd fr : Nat} {rc : Nat → Int → pS → Option (Int × pS)} (hrc : ∀ w a σ v σ1, rc w a σ = some (v, σ1) → Con l fd (mi_rdS w) [.inr 57, .inr 1, .inl a] σ v σ1) (hfd : fd + 1 ≤ fr) (hfr : 1 ≤ fr) {a2 : Int} {σ : pS} {v : Int} {σ1 : pS} (h : f_Law_readProduct_57_1 rc a2 σ = some (v, σ1)) : Con l fr 23 [.inr 57, .inr 1, .inl a2] σ v σ1 := Con_mk 3 5 rfl (by decide +kernel) (fun _ H => ok_Law_readProduct_57_1_w hrc hfd hfr H _ _ h)
theorem ok_Law_opens_1_w {l : Launch} {rv : Int} {rσ : pS} {G : Nat → pL → List pV → pS → Prop} (H : px_R l 1 25 rv rσ G) : ∀ (a1 : Int) (σ : pS), f_Law_opens_1 a1 σ = some (rv, rσ) → G 0 [some (.inr 1), some (.inl a1)] [] σ := by
  intro a1 σ h
  unfold f_Law_opens_1 at h
  refine H [((1, 1, 0, 0, []), 1), ((0, 0, 0, 6, []), 2), ((13, 2, 12, 0, []), 3), ((2, 0, 0, 0, []), 1), ((0, 0, 0, 5, []), 1), ((23, 20, 1, 1, [(0, 1)]), 3), ((27, 1, 0, 0, []), 1)] 0 _ _ _ (by decide +kernel) ?_
  rcases px_ite h with ⟨c1, h⟩ | ⟨c1, h⟩
  · refine And.intro (fun _ => ?_) (fun hn => absurd c1 hn)
    refine H [((2, 0, 0, 0, []), 1), ((23, 21, 0, 0, [(0, 1)]), 3), ((0, 0, 0, 1, []), 1), ((27, 1, 0, 0, []), 1)] 12 _ _ _ (by decide +kernel) ?_
    obtain ⟨⟨vq2, σq2⟩, hq2, h⟩ := px_bind h
    dsimp only at h
    refine Exists.intro 0 (Exists.intro vq2 (Exists.intro σq2 (And.intro (Nat.le_of_ble_eq_true rfl) (And.intro (ok_Tape_step_1 hq2) ?_))))
    refine And.intro (show (0 : Int) ≤ 1 ∧ (1 : Int) ≤ 1 from by decide) ?_
    exact Prod.mk.inj (Option.some.inj h)
  · refine And.intro (fun hp => absurd hp c1) (fun _ => ?_)
    obtain ⟨⟨vq3, σq3⟩, hq3, h⟩ := px_bind h
    dsimp only at h
    refine Exists.intro 0 (Exists.intro vq3 (Exists.intro σq3 (And.intro (Nat.le_of_ble_eq_true rfl) (And.intro (ok_Tape_fail_1 hq3) ?_))))
    obtain ⟨g4, h⟩ := px_gd h
    refine And.intro g4 ?_
    exact Prod.mk.inj (Option.some.inj h)
theorem ok_Law_opens_1 {l : Launch} {a1 : Int} {σ : pS} {v : Int} {σ1 : pS} (h : f_Law_opens_1 a1 σ = some (v, σ1)) : Con l 1 25 [.inr 1, .inl a1] σ v σ1 := Con_mk 2 2 rfl (by decide +kernel) (fun _ H => ok_Law_opens_1_w H _ _ h)
theorem ok_Law_readFactor_57_1_p96 {l : Launch} {rv : Int} {rσ : pS} {G : Nat → pL → List pV → pS → Prop} {fd fr : Nat} {rc : Nat → Int → pS → Option (Int × pS)} (hrc : ∀ w a σ v σ1, rc w a σ = some (v, σ1) → Con l fd (mi_rdS w) [.inr 57, .inr 1, .inl a] σ v σ1) (hfd : fd + 1 ≤ fr) (hfr : 4 ≤ fr) (H : px_R l fr 24 rv rσ G) : ∀ (s0 : Int) (σ : pS), f_Law_readFactor_57_1_p96 rc s0 σ = some (rv, rσ) → G 96 [some (.inr 57), some (.inr 1), none, none, none] [.inl s0] σ := by
  intro s0 σ h
  unfold f_Law_readFactor_57_1_p96 at h
  refine H [((3, 4, 0, 0, []), 2), ((1, 4, 0, 0, []), 2), ((14, 3, 109, 0, []), 3), ((2, 1, 0, 0, []), 1), ((0, 0, 0, 1, []), 1), ((23, 20, 1, 1, [(0, 1)]), 3), ((27, 1, 0, 0, []), 1)] 96 _ _ _ (by decide +kernel) ?_
  rcases px_ite h with ⟨c7, h⟩ | ⟨c7, h⟩
  · refine And.intro (fun _ => ?_) (fun hn => absurd c7 hn)
    refine H [((2, 1, 0, 0, []), 1), ((23, 21, 0, 0, [(0, 1)]), 3), ((2, 0, 0, 0, []), 1), ((0, 0, 0, 97, []), 2), ((1, 4, 0, 0, []), 2), ((23, 29, 2, 1, [(0, 57)]), 3), ((11, 0, 0, 0, []), 1), ((0, 0, 0, 1, []), 1), ((27, 1, 0, 0, []), 1)] 109 _ _ _ (by decide +kernel) ?_
    obtain ⟨⟨vq8, σq8⟩, hq8, h⟩ := px_bind h
    dsimp only at h
    refine Exists.intro 0 (Exists.intro vq8 (Exists.intro σq8 (And.intro (Nat.le_trans (Nat.le_of_ble_eq_true rfl) hfr) (And.intro (ok_Tape_step_1 hq8) ?_))))
    obtain ⟨⟨vq9, σq9⟩, hq9, h⟩ := px_bind h
    dsimp only at h
    refine Exists.intro 0 (Exists.intro vq9 (Exists.intro σq9 (And.intro (Nat.le_trans (Nat.le_of_ble_eq_true rfl) hfr) (And.intro (ok_Law_addStep_57 hq9) ?_))))
    refine And.intro (show (0 : Int) ≤ 1 ∧ (1 : Int) ≤ 1 from by decide) ?_
    exact Prod.mk.inj (Option.some.inj h)
  · refine And.intro (fun hp => absurd hp c7) (fun _ => ?_)
    obtain ⟨⟨vq10, σq10⟩, hq10, h⟩ := px_bind h
    dsimp only at h
    refine Exists.intro 0 (Exists.intro vq10 (Exists.intro σq10 (And.intro (Nat.le_trans (Nat.le_of_ble_eq_true rfl) hfr) (And.intro (ok_Tape_fail_1 hq10) ?_))))
    obtain ⟨g11, h⟩ := px_gd h
    refine And.intro g11 ?_
    exact Prod.mk.inj (Option.some.inj h)
theorem ok_Law_readFactor_57_1_w {l : Launch} {rv : Int} {rσ : pS} {G : Nat → pL → List pV → pS → Prop} {fd fr : Nat} {rc : Nat → Int → pS → Option (Int × pS)} (hrc : ∀ w a σ v σ1, rc w a σ = some (v, σ1) → Con l fd (mi_rdS w) [.inr 57, .inr 1, .inl a] σ v σ1) (hfd : fd + 1 ≤ fr) (hfr : 4 ≤ fr) (H : px_R l fr 24 rv rσ G) : ∀ (a2 : Int) (σ : pS), f_Law_readFactor_57_1 rc a2 σ = some (rv, rσ) → G 0 [some (.inr 57), some (.inr 1), some (.inl a2), none, none] [] σ := by
  intro a2 σ h
  unfold f_Law_readFactor_57_1 at h
  refine H [((2, 1, 0, 0, []), 1), ((23, 19, 0, 1, [(0, 1)]), 3), ((3, 3, 0, 0, []), 1), ((1, 3, 0, 0, []), 1), ((0, 0, 0, 91, []), 2), ((13, 1, 45, 0, []), 3), ((2, 1, 0, 0, []), 1), ((1, 2, 0, 0, []), 1), ((24, 25, 2, 1, []), 3), ((14, 0, 43, 0, []), 3), ((2, 0, 0, 0, []), 1), ((2, 1, 0, 0, []), 1), ((1, 2, 0, 0, []), 1), ((0, 0, 0, 1, []), 1), ((6, 0, 0, 0, []), 1), ((23, 22, 2, 1, [(0, 57)]), 3), ((14, 0, 43, 0, []), 3), ((2, 1, 0, 0, []), 1), ((0, 0, 0, 93, []), 2), ((23, 26, 1, 1, [(0, 1)]), 3), ((14, 0, 43, 0, []), 3), ((0, 0, 0, 1, []), 1), ((12, 0, 44, 0, []), 3), ((27, 1, 0, 0, []), 1)] 0 _ _ _ (by decide +kernel) ?_
  obtain ⟨⟨vq1, σq1⟩, hq1, h⟩ := px_bind h
  dsimp only at h
  refine Exists.intro 0 (Exists.intro vq1 (Exists.intro σq1 (And.intro (Nat.le_trans (Nat.le_of_ble_eq_true rfl) hfr) (And.intro (ok_Tape_sign_1 hq1) ?_))))
  rcases px_ite h with ⟨c2, h⟩ | ⟨c2, h⟩
  · refine And.intro (fun hp => absurd c2 hp) (fun _ => ?_)
    obtain ⟨⟨vq15, σq15⟩, hq15, h⟩ := px_bind h
    dsimp only at h
    refine Exists.intro 1 (Exists.intro vq15 (Exists.intro σq15 (And.intro (Nat.le_trans (Nat.le_of_ble_eq_true rfl) hfr) (And.intro (ok_Law_opens_1 hq15) ?_))))
    rcases px_ite h with ⟨c16, h⟩ | ⟨c16, h⟩
    · refine And.intro (fun _ => ?_) (fun hn => absurd c16 hn)
      refine H [((0, 0, 0, 0, []), 1), ((27, 1, 0, 0, []), 1)] 43 _ _ _ (by decide +kernel) ?_
      refine And.intro (show (0 : Int) ≤ 0 ∧ (0 : Int) ≤ 1 from by decide) ?_
      exact Prod.mk.inj (Option.some.inj h)
    · refine And.intro (fun hp => absurd hp c16) (fun _ => ?_)
      obtain ⟨⟨vq17, σq17⟩, hq17, h⟩ := px_bind h
      dsimp only at h
      refine Exists.intro fd (Exists.intro vq17 (Exists.intro σq17 (And.intro hfd (And.intro (hrc 0 _ _ _ _ hq17) ?_))))
      rcases px_ite h with ⟨c18, h⟩ | ⟨c18, h⟩
      · refine And.intro (fun _ => ?_) (fun hn => absurd c18 hn)
        refine H [((0, 0, 0, 0, []), 1), ((27, 1, 0, 0, []), 1)] 43 _ _ _ (by decide +kernel) ?_
        refine And.intro (show (0 : Int) ≤ 0 ∧ (0 : Int) ≤ 1 from by decide) ?_
        exact Prod.mk.inj (Option.some.inj h)
      · refine And.intro (fun hp => absurd hp c18) (fun _ => ?_)
        obtain ⟨⟨vq19, σq19⟩, hq19, h⟩ := px_bind h
        dsimp only at h
        refine Exists.intro 1 (Exists.intro vq19 (Exists.intro σq19 (And.intro (Nat.le_trans (Nat.le_of_ble_eq_true rfl) hfr) (And.intro (ok_Tape_accept_1 hq19) ?_))))
        rcases px_ite h with ⟨c20, h⟩ | ⟨c20, h⟩
        · refine And.intro (fun _ => ?_) (fun hn => absurd c20 hn)
          refine H [((0, 0, 0, 0, []), 1), ((27, 1, 0, 0, []), 1)] 43 _ _ _ (by decide +kernel) ?_
          refine And.intro (show (0 : Int) ≤ 0 ∧ (0 : Int) ≤ 1 from by decide) ?_
          exact Prod.mk.inj (Option.some.inj h)
        · refine And.intro (fun hp => absurd hp c20) (fun _ => ?_)
          refine And.intro (show (0 : Int) ≤ 1 ∧ (1 : Int) ≤ 1 from by decide) ?_
          exact Prod.mk.inj (Option.some.inj h)
  · refine And.intro (fun _ => ?_) (fun hn => absurd c2 hn)
    refine H [((2, 1, 0, 0, []), 1), ((23, 27, 0, 1, [(0, 1)]), 3), ((14, 0, 80, 0, []), 3), ((2, 1, 0, 0, []), 1), ((0, 0, 0, 5, []), 1), ((23, 28, 1, 1, [(0, 1)]), 3), ((3, 4, 0, 0, []), 2), ((2, 0, 0, 0, []), 1), ((0, 0, 0, 48, []), 2), ((1, 4, 0, 0, []), 2), ((23, 29, 2, 1, [(0, 57)]), 3), ((11, 0, 0, 0, []), 1), ((1, 4, 0, 0, []), 2), ((0, 0, 0, (-1), []), 1), ((13, 0, 78, 0, []), 3), ((0, 0, 0, 1, []), 1), ((12, 0, 79, 0, []), 3), ((27, 1, 0, 0, []), 1)] 45 _ _ _ (by decide +kernel) ?_
    obtain ⟨⟨vq3, σq3⟩, hq3, h⟩ := px_bind h
    dsimp only at h
    refine Exists.intro 1 (Exists.intro vq3 (Exists.intro σq3 (And.intro (Nat.le_trans (Nat.le_of_ble_eq_true rfl) hfr) (And.intro (ok_Tape_digitNext_1 hq3) ?_))))
    rcases px_ite h with ⟨c4, h⟩ | ⟨c4, h⟩
    · refine And.intro (fun _ => ?_) (fun hn => absurd c4 hn)
      refine H [((1, 3, 0, 0, []), 1), ((0, 0, 0, (-1), []), 1), ((13, 1, 89, 0, []), 3), ((0, 0, 0, (-1), []), 1), ((12, 0, 96, 0, []), 3), ((29, 2, 0, 0, []), 0), ((29, 3, 0, 0, []), 0)] 80 _ _ _ (by decide +kernel) ?_
      rcases px_ite h with ⟨c5, h⟩ | ⟨c5, h⟩
      · refine And.intro (fun hp => absurd c5 hp) (fun _ => ?_)
        exact ok_Law_readFactor_57_1_p96 hrc hfd hfr H _ _ h
      · refine And.intro (fun _ => ?_) (fun hn => absurd c5 hn)
        refine H [((30, 3, 0, 0, []), 7), ((29, 2, 0, 0, []), 0), ((29, 3, 0, 0, []), 0)] 89 _ _ _ (by decide +kernel) ?_
        refine And.intro (Nat.le_trans (Nat.le_of_ble_eq_true rfl) hfr) ?_
        obtain ⟨g6, h⟩ := px_gd h
        refine And.intro g6 ?_
        exact ok_Law_readFactor_57_1_p96 hrc hfd hfr H _ _ h
    · refine And.intro (fun hp => absurd hp c4) (fun _ => ?_)
      obtain ⟨⟨vq12, σq12⟩, hq12, h⟩ := px_bind h
      dsimp only at h
      refine Exists.intro 2 (Exists.intro vq12 (Exists.intro σq12 (And.intro (Nat.le_trans (Nat.le_of_ble_eq_true rfl) hfr) (And.intro (ok_Tape_readDigits_1 hq12) ?_))))
      obtain ⟨⟨vq13, σq13⟩, hq13, h⟩ := px_bind h
      dsimp only at h
      refine Exists.intro 0 (Exists.intro vq13 (Exists.intro σq13 (And.intro (Nat.le_trans (Nat.le_of_ble_eq_true rfl) hfr) (And.intro (ok_Law_addStep_57 hq13) ?_))))
      rcases px_ite h with ⟨c14, h⟩ | ⟨c14, h⟩
      · refine And.intro (fun _ => ?_) (fun hn => absurd c14 hn)
        refine H [((0, 0, 0, 0, []), 1), ((27, 1, 0, 0, []), 1)] 78 _ _ _ (by decide +kernel) ?_
        refine And.intro (show (0 : Int) ≤ 0 ∧ (0 : Int) ≤ 1 from by decide) ?_
        exact Prod.mk.inj (Option.some.inj h)
      · refine And.intro (fun hp => absurd hp c14) (fun _ => ?_)
        refine And.intro (show (0 : Int) ≤ 1 ∧ (1 : Int) ≤ 1 from by decide) ?_
        exact Prod.mk.inj (Option.some.inj h)
theorem ok_Law_readFactor_57_1 {l : Launch} {fd fr : Nat} {rc : Nat → Int → pS → Option (Int × pS)} (hrc : ∀ w a σ v σ1, rc w a σ = some (v, σ1) → Con l fd (mi_rdS w) [.inr 57, .inr 1, .inl a] σ v σ1) (hfd : fd + 1 ≤ fr) (hfr : 4 ≤ fr) {a2 : Int} {σ : pS} {v : Int} {σ1 : pS} (h : f_Law_readFactor_57_1 rc a2 σ = some (v, σ1)) : Con l fr 24 [.inr 57, .inr 1, .inl a2] σ v σ1 := Con_mk 3 5 rfl (by decide +kernel) (fun _ H => ok_Law_readFactor_57_1_w hrc hfd hfr H _ _ h)
theorem ok_rdS {l : Launch} : ∀ (d w : Nat) (a : Int) (σ : pS) (v : Int) (σ1 : pS), rdS d w a σ = some (v, σ1) → Con l (4 + d) (mi_rdS w) [.inr 57, .inr 1, .inl a] σ v σ1
  | 0, w, a, σ, v, σ1, h => by cases h
  | d + 1, w, a, σ, v, σ1, h => by
    match w, h with
    | 0, h => exact ok_Law_readSum_57_1 (fun w a σ v σ1 h => ok_rdS d w a σ v σ1 h) (Nat.le_refl _) (by omega) h
    | 1, h => exact ok_Law_readProduct_57_1 (fun w a σ v σ1 h => ok_rdS d w a σ v σ1 h) (Nat.le_refl _) (by omega) h
    | _ + 2, h => exact ok_Law_readFactor_57_1 (fun w a σ v σ1 h => ok_rdS d w a σ v σ1 h) (Nat.le_refl _) (by omega) h
theorem ok_Law_readTest_57_1_p123 {l : Launch} {rv : Int} {rσ : pS} {G : Nat → pL → List pV → pS → Prop} {fd fr : Nat} {rc : Nat → Int → pS → Option (Int × pS)} (hrc : ∀ w a σ v σ1, rc w a σ = some (v, σ1) → Con l fd (mi_rdC w) [.inr 57, .inr 1, .inl a] σ v σ1) (hfd : fd + 1 ≤ fr) (hfr : 45 ≤ fr) (H : px_R l fr 34 rv rσ G) : ∀ (a2 a3 : Int) (σ : pS), f_Law_readTest_57_1_p123 rc a2 a3 σ = some (rv, rσ) → G 123 [some (.inr 57), some (.inr 1), some (.inl a2), some (.inl a3)] [] σ := by
  intro a2 a3 σ h
  unfold f_Law_readTest_57_1_p123 at h
  refine H [((2, 1, 0, 0, []), 1), ((23, 21, 0, 0, [(0, 1)]), 3), ((2, 0, 0, 0, []), 1), ((2, 1, 0, 0, []), 1), ((1, 2, 0, 0, []), 1), ((23, 22, 2, 1, [(0, 57)]), 3), ((14, 1, 138, 0, []), 3), ((0, 0, 0, 0, []), 1), ((27, 1, 0, 0, []), 1)] 123 _ _ _ (by decide +kernel) ?_
  obtain ⟨⟨vq9, σq9⟩, hq9, h⟩ := px_bind h
  dsimp only at h
  refine Exists.intro 0 (Exists.intro vq9 (Exists.intro σq9 (And.intro (Nat.le_trans (Nat.le_of_ble_eq_true rfl) hfr) (And.intro (ok_Tape_step_1 hq9) ?_))))
  obtain ⟨⟨vq10, σq10⟩, hq10, h⟩ := px_bind h
  dsimp only at h
  refine Exists.intro 44 (Exists.intro vq10 (Exists.intro σq10 (And.intro (Nat.le_trans (Nat.le_of_ble_eq_true rfl) hfr) (And.intro (ok_rdS 40 _ _ _ _ _ hq10) ?_))))
  rcases px_ite h with ⟨c11, h⟩ | ⟨c11, h⟩
  · refine And.intro (fun hp => absurd c11 hp) (fun _ => ?_)
    refine And.intro (show (0 : Int) ≤ 0 ∧ (0 : Int) ≤ 1 from by decide) ?_
    exact Prod.mk.inj (Option.some.inj h)
  · refine And.intro (fun _ => ?_) (fun hn => absurd c11 hn)
    refine H [((2, 0, 0, 0, []), 1), ((1, 3, 0, 0, []), 1), ((0, 0, 0, 0, []), 1), ((23, 29, 2, 1, [(0, 57)]), 3), ((11, 0, 0, 0, []), 1), ((0, 0, 0, 1, []), 1), ((27, 1, 0, 0, []), 1)] 138 _ _ _ (by decide +kernel) ?_
    obtain ⟨⟨vq12, σq12⟩, hq12, h⟩ := px_bind h
    dsimp only at h
    refine Exists.intro 0 (Exists.intro vq12 (Exists.intro σq12 (And.intro (Nat.le_trans (Nat.le_of_ble_eq_true rfl) hfr) (And.intro (ok_Law_addStep_57 hq12) ?_))))
    refine And.intro (show (0 : Int) ≤ 1 ∧ (1 : Int) ≤ 1 from by decide) ?_
    exact Prod.mk.inj (Option.some.inj h)
theorem ok_Law_readTest_57_1_w {l : Launch} {rv : Int} {rσ : pS} {G : Nat → pL → List pV → pS → Prop} {fd fr : Nat} {rc : Nat → Int → pS → Option (Int × pS)} (hrc : ∀ w a σ v σ1, rc w a σ = some (v, σ1) → Con l fd (mi_rdC w) [.inr 57, .inr 1, .inl a] σ v σ1) (hfd : fd + 1 ≤ fr) (hfr : 45 ≤ fr) (H : px_R l fr 34 rv rσ G) : ∀ (a2 : Int) (σ : pS), f_Law_readTest_57_1 rc a2 σ = some (rv, rσ) → G 0 [some (.inr 57), some (.inr 1), some (.inl a2), none] [] σ := by
  intro a2 σ h
  unfold f_Law_readTest_57_1 at h
  refine H [((2, 1, 0, 0, []), 1), ((23, 19, 0, 1, [(0, 1)]), 3), ((0, 0, 0, 33, []), 2), ((13, 1, 40, 0, []), 3), ((2, 1, 0, 0, []), 1), ((1, 2, 0, 0, []), 1), ((24, 25, 2, 1, []), 3), ((14, 0, 28, 0, []), 3), ((2, 0, 0, 0, []), 1), ((2, 1, 0, 0, []), 1), ((1, 2, 0, 0, []), 1), ((0, 0, 0, 1, []), 1), ((6, 0, 0, 0, []), 1), ((23, 34, 2, 1, [(0, 57)]), 3), ((14, 1, 30, 0, []), 3), ((0, 0, 0, 0, []), 1), ((27, 1, 0, 0, []), 1)] 0 _ _ _ (by decide +kernel) ?_
  obtain ⟨⟨vq1, σq1⟩, hq1, h⟩ := px_bind h
  dsimp only at h
  refine Exists.intro 0 (Exists.intro vq1 (Exists.intro σq1 (And.intro (Nat.le_trans (Nat.le_of_ble_eq_true rfl) hfr) (And.intro (ok_Tape_sign_1 hq1) ?_))))
  rcases px_ite h with ⟨c2, h⟩ | ⟨c2, h⟩
  · refine And.intro (fun hp => absurd c2 hp) (fun _ => ?_)
    obtain ⟨⟨vq23, σq23⟩, hq23, h⟩ := px_bind h
    dsimp only at h
    refine Exists.intro 1 (Exists.intro vq23 (Exists.intro σq23 (And.intro (Nat.le_trans (Nat.le_of_ble_eq_true rfl) hfr) (And.intro (ok_Law_opens_1 hq23) ?_))))
    rcases px_ite h with ⟨c24, h⟩ | ⟨c24, h⟩
    · refine And.intro (fun _ => ?_) (fun hn => absurd c24 hn)
      refine H [((0, 0, 0, 0, []), 1), ((27, 1, 0, 0, []), 1)] 28 _ _ _ (by decide +kernel) ?_
      refine And.intro (show (0 : Int) ≤ 0 ∧ (0 : Int) ≤ 1 from by decide) ?_
      exact Prod.mk.inj (Option.some.inj h)
    · refine And.intro (fun hp => absurd hp c24) (fun _ => ?_)
      obtain ⟨⟨vq25, σq25⟩, hq25, h⟩ := px_bind h
      dsimp only at h
      refine Exists.intro fd (Exists.intro vq25 (Exists.intro σq25 (And.intro hfd (And.intro (hrc 2 _ _ _ _ hq25) ?_))))
      rcases px_ite h with ⟨c26, h⟩ | ⟨c26, h⟩
      · refine And.intro (fun hp => absurd c26 hp) (fun _ => ?_)
        refine And.intro (show (0 : Int) ≤ 0 ∧ (0 : Int) ≤ 1 from by decide) ?_
        exact Prod.mk.inj (Option.some.inj h)
      · refine And.intro (fun _ => ?_) (fun hn => absurd c26 hn)
        refine H [((2, 0, 0, 0, []), 1), ((0, 0, 0, 33, []), 2), ((0, 0, 0, 0, []), 1), ((23, 29, 2, 1, [(0, 57)]), 3), ((11, 0, 0, 0, []), 1), ((0, 0, 0, 1, []), 1), ((27, 1, 0, 0, []), 1)] 30 _ _ _ (by decide +kernel) ?_
        obtain ⟨⟨vq27, σq27⟩, hq27, h⟩ := px_bind h
        dsimp only at h
        refine Exists.intro 0 (Exists.intro vq27 (Exists.intro σq27 (And.intro (Nat.le_trans (Nat.le_of_ble_eq_true rfl) hfr) (And.intro (ok_Law_addStep_57 hq27) ?_))))
        refine And.intro (show (0 : Int) ≤ 1 ∧ (1 : Int) ≤ 1 from by decide) ?_
        exact Prod.mk.inj (Option.some.inj h)
  · refine And.intro (fun _ => ?_) (fun hn => absurd c2 hn)
    refine H [((2, 1, 0, 0, []), 1), ((23, 19, 0, 1, [(0, 1)]), 3), ((0, 0, 0, 40, []), 2), ((13, 1, 83, 0, []), 3), ((2, 1, 0, 0, []), 1), ((1, 2, 0, 0, []), 1), ((24, 25, 2, 1, []), 3), ((14, 0, 81, 0, []), 3), ((2, 0, 0, 0, []), 1), ((2, 1, 0, 0, []), 1), ((1, 2, 0, 0, []), 1), ((0, 0, 0, 1, []), 1), ((6, 0, 0, 0, []), 1), ((23, 32, 2, 1, [(0, 57)]), 3), ((14, 0, 81, 0, []), 3), ((2, 1, 0, 0, []), 1), ((0, 0, 0, 41, []), 2), ((23, 26, 1, 1, [(0, 1)]), 3), ((14, 0, 81, 0, []), 3), ((0, 0, 0, 1, []), 1), ((12, 0, 82, 0, []), 3), ((27, 1, 0, 0, []), 1)] 40 _ _ _ (by decide +kernel) ?_
    obtain ⟨⟨vq3, σq3⟩, hq3, h⟩ := px_bind h
    dsimp only at h
    refine Exists.intro 0 (Exists.intro vq3 (Exists.intro σq3 (And.intro (Nat.le_trans (Nat.le_of_ble_eq_true rfl) hfr) (And.intro (ok_Tape_sign_1 hq3) ?_))))
    rcases px_ite h with ⟨c4, h⟩ | ⟨c4, h⟩
    · refine And.intro (fun hp => absurd c4 hp) (fun _ => ?_)
      obtain ⟨⟨vq17, σq17⟩, hq17, h⟩ := px_bind h
      dsimp only at h
      refine Exists.intro 1 (Exists.intro vq17 (Exists.intro σq17 (And.intro (Nat.le_trans (Nat.le_of_ble_eq_true rfl) hfr) (And.intro (ok_Law_opens_1 hq17) ?_))))
      rcases px_ite h with ⟨c18, h⟩ | ⟨c18, h⟩
      · refine And.intro (fun _ => ?_) (fun hn => absurd c18 hn)
        refine H [((0, 0, 0, 0, []), 1), ((27, 1, 0, 0, []), 1)] 81 _ _ _ (by decide +kernel) ?_
        refine And.intro (show (0 : Int) ≤ 0 ∧ (0 : Int) ≤ 1 from by decide) ?_
        exact Prod.mk.inj (Option.some.inj h)
      · refine And.intro (fun hp => absurd hp c18) (fun _ => ?_)
        obtain ⟨⟨vq19, σq19⟩, hq19, h⟩ := px_bind h
        dsimp only at h
        refine Exists.intro fd (Exists.intro vq19 (Exists.intro σq19 (And.intro hfd (And.intro (hrc 0 _ _ _ _ hq19) ?_))))
        rcases px_ite h with ⟨c20, h⟩ | ⟨c20, h⟩
        · refine And.intro (fun _ => ?_) (fun hn => absurd c20 hn)
          refine H [((0, 0, 0, 0, []), 1), ((27, 1, 0, 0, []), 1)] 81 _ _ _ (by decide +kernel) ?_
          refine And.intro (show (0 : Int) ≤ 0 ∧ (0 : Int) ≤ 1 from by decide) ?_
          exact Prod.mk.inj (Option.some.inj h)
        · refine And.intro (fun hp => absurd hp c20) (fun _ => ?_)
          obtain ⟨⟨vq21, σq21⟩, hq21, h⟩ := px_bind h
          dsimp only at h
          refine Exists.intro 1 (Exists.intro vq21 (Exists.intro σq21 (And.intro (Nat.le_trans (Nat.le_of_ble_eq_true rfl) hfr) (And.intro (ok_Tape_accept_1 hq21) ?_))))
          rcases px_ite h with ⟨c22, h⟩ | ⟨c22, h⟩
          · refine And.intro (fun _ => ?_) (fun hn => absurd c22 hn)
            refine H [((0, 0, 0, 0, []), 1), ((27, 1, 0, 0, []), 1)] 81 _ _ _ (by decide +kernel) ?_
            refine And.intro (show (0 : Int) ≤ 0 ∧ (0 : Int) ≤ 1 from by decide) ?_
            exact Prod.mk.inj (Option.some.inj h)
          · refine And.intro (fun hp => absurd hp c22) (fun _ => ?_)
            refine And.intro (show (0 : Int) ≤ 1 ∧ (1 : Int) ≤ 1 from by decide) ?_
            exact Prod.mk.inj (Option.some.inj h)
    · refine And.intro (fun _ => ?_) (fun hn => absurd c4 hn)
      refine H [((2, 0, 0, 0, []), 1), ((2, 1, 0, 0, []), 1), ((1, 2, 0, 0, []), 1), ((23, 22, 2, 1, [(0, 57)]), 3), ((14, 1, 94, 0, []), 3), ((0, 0, 0, 0, []), 1), ((27, 1, 0, 0, []), 1)] 83 _ _ _ (by decide +kernel) ?_
      obtain ⟨⟨vq5, σq5⟩, hq5, h⟩ := px_bind h
      dsimp only at h
      refine Exists.intro 44 (Exists.intro vq5 (Exists.intro σq5 (And.intro (Nat.le_trans (Nat.le_of_ble_eq_true rfl) hfr) (And.intro (ok_rdS 40 _ _ _ _ _ hq5) ?_))))
      rcases px_ite h with ⟨c6, h⟩ | ⟨c6, h⟩
      · refine And.intro (fun hp => absurd c6 hp) (fun _ => ?_)
        refine And.intro (show (0 : Int) ≤ 0 ∧ (0 : Int) ≤ 1 from by decide) ?_
        exact Prod.mk.inj (Option.some.inj h)
      · refine And.intro (fun _ => ?_) (fun hn => absurd c6 hn)
        refine H [((2, 1, 0, 0, []), 1), ((23, 19, 0, 1, [(0, 1)]), 3), ((3, 3, 0, 0, []), 1), ((1, 3, 0, 0, []), 1), ((0, 0, 0, 60, []), 2), ((13, 0, 123, 0, []), 3), ((1, 3, 0, 0, []), 1), ((0, 0, 0, 62, []), 2), ((13, 0, 123, 0, []), 3), ((1, 3, 0, 0, []), 1), ((0, 0, 0, 61, []), 2), ((13, 0, 123, 0, []), 3), ((2, 1, 0, 0, []), 1), ((0, 0, 0, 1, []), 1), ((23, 20, 1, 1, [(0, 1)]), 3), ((27, 1, 0, 0, []), 1)] 94 _ _ _ (by decide +kernel) ?_
        obtain ⟨⟨vq7, σq7⟩, hq7, h⟩ := px_bind h
        dsimp only at h
        refine Exists.intro 0 (Exists.intro vq7 (Exists.intro σq7 (And.intro (Nat.le_trans (Nat.le_of_ble_eq_true rfl) hfr) (And.intro (ok_Tape_sign_1 hq7) ?_))))
        rcases px_ite h with ⟨c8, h⟩ | ⟨c8, h⟩
        · refine And.intro (fun _ => ?_) (fun hn => absurd c8 hn)
          exact ok_Law_readTest_57_1_p123 hrc hfd hfr H _ _ _ h
        · refine And.intro (fun hp => absurd hp c8) (fun _ => ?_)
          rcases px_ite h with ⟨c13, h⟩ | ⟨c13, h⟩
          · refine And.intro (fun _ => ?_) (fun hn => absurd c13 hn)
            exact ok_Law_readTest_57_1_p123 hrc hfd hfr H _ _ _ h
          · refine And.intro (fun hp => absurd hp c13) (fun _ => ?_)
            rcases px_ite h with ⟨c14, h⟩ | ⟨c14, h⟩
            · refine And.intro (fun _ => ?_) (fun hn => absurd c14 hn)
              exact ok_Law_readTest_57_1_p123 hrc hfd hfr H _ _ _ h
            · refine And.intro (fun hp => absurd hp c14) (fun _ => ?_)
              obtain ⟨⟨vq15, σq15⟩, hq15, h⟩ := px_bind h
              dsimp only at h
              refine Exists.intro 0 (Exists.intro vq15 (Exists.intro σq15 (And.intro (Nat.le_trans (Nat.le_of_ble_eq_true rfl) hfr) (And.intro (ok_Tape_fail_1 hq15) ?_))))
              obtain ⟨g16, h⟩ := px_gd h
              refine And.intro g16 ?_
              exact Prod.mk.inj (Option.some.inj h)
theorem ok_Law_readTest_57_1 {l : Launch} {fd fr : Nat} {rc : Nat → Int → pS → Option (Int × pS)} (hrc : ∀ w a σ v σ1, rc w a σ = some (v, σ1) → Con l fd (mi_rdC w) [.inr 57, .inr 1, .inl a] σ v σ1) (hfd : fd + 1 ≤ fr) (hfr : 45 ≤ fr) {a2 : Int} {σ : pS} {v : Int} {σ1 : pS} (h : f_Law_readTest_57_1 rc a2 σ = some (v, σ1)) : Con l fr 34 [.inr 57, .inr 1, .inl a2] σ v σ1 := Con_mk 3 4 rfl (by decide +kernel) (fun _ H => ok_Law_readTest_57_1_w hrc hfd hfr H _ _ h)
theorem ok_rdC {l : Launch} : ∀ (d w : Nat) (a : Int) (σ : pS) (v : Int) (σ1 : pS), rdC d w a σ = some (v, σ1) → Con l (45 + d) (mi_rdC w) [.inr 57, .inr 1, .inl a] σ v σ1
  | 0, w, a, σ, v, σ1, h => by cases h
  | d + 1, w, a, σ, v, σ1, h => by
    match w, h with
    | 0, h => exact ok_Law_readEither_57_1 (fun w a σ v σ1 h => ok_rdC d w a σ v σ1 h) (Nat.le_refl _) (by omega) h
    | 1, h => exact ok_Law_readBoth_57_1 (fun w a σ v σ1 h => ok_rdC d w a σ v σ1 h) (Nat.le_refl _) (by omega) h
    | _ + 2, h => exact ok_Law_readTest_57_1 (fun w a σ v σ1 h => ok_rdC d w a σ v σ1 h) (Nat.le_refl _) (by omega) h
theorem ok_Law_readRule_57_1_p73 {l : Launch} {rv : Int} {rσ : pS} {G : Nat → pL → List pV → pS → Prop} (H : px_R l 86 18 rv rσ G) : ∀ (a2 : Int) (σ : pS), f_Law_readRule_57_1_p73 a2 σ = some (rv, rσ) → G 73 [some (.inr 57), some (.inr 1), some (.inl a2), none] [] σ := by
  intro a2 σ h
  unfold f_Law_readRule_57_1_p73 at h
  refine H [((2, 0, 0, 0, []), 1), ((17, 57, 60, 0, []), 3), ((1, 2, 0, 0, []), 1), ((2, 0, 0, 0, []), 1), ((16, 57, 8, 0, []), 3), ((20, 60, 16, 0, []), 1), ((2, 1, 0, 0, []), 1), ((0, 0, 0, 40, []), 2), ((23, 26, 1, 1, [(0, 1)]), 3), ((14, 0, 110, 0, []), 3), ((2, 0, 0, 0, []), 1), ((2, 1, 0, 0, []), 1), ((0, 0, 0, 1, []), 1), ((23, 32, 2, 1, [(0, 57)]), 3), ((14, 0, 110, 0, []), 3), ((2, 1, 0, 0, []), 1), ((0, 0, 0, 41, []), 2), ((23, 26, 1, 1, [(0, 1)]), 3), ((14, 1, 112, 0, []), 3), ((0, 0, 0, 0, []), 1), ((27, 1, 0, 0, []), 1)] 73 _ _ _ (by decide +kernel) ?_
  obtain ⟨g8, h⟩ := px_gd h
  refine And.intro g8 ?_
  obtain ⟨⟨vq9, σq9⟩, hq9, h⟩ := px_bind h
  dsimp only at h
  refine Exists.intro 1 (Exists.intro vq9 (Exists.intro σq9 (And.intro (Nat.le_of_ble_eq_true rfl) (And.intro (ok_Tape_accept_1 hq9) ?_))))
  rcases px_ite h with ⟨c10, h⟩ | ⟨c10, h⟩
  · refine And.intro (fun _ => ?_) (fun hn => absurd c10 hn)
    refine H [((0, 0, 0, 0, []), 1), ((27, 1, 0, 0, []), 1)] 110 _ _ _ (by decide +kernel) ?_
    refine And.intro (show (0 : Int) ≤ 0 ∧ (0 : Int) ≤ 1 from by decide) ?_
    exact Prod.mk.inj (Option.some.inj h)
  · refine And.intro (fun hp => absurd hp c10) (fun _ => ?_)
    obtain ⟨⟨vq11, σq11⟩, hq11, h⟩ := px_bind h
    dsimp only at h
    refine Exists.intro 85 (Exists.intro vq11 (Exists.intro σq11 (And.intro (Nat.le_of_ble_eq_true rfl) (And.intro (ok_rdC 40 _ _ _ _ _ hq11) ?_))))
    rcases px_ite h with ⟨c12, h⟩ | ⟨c12, h⟩
    · refine And.intro (fun _ => ?_) (fun hn => absurd c12 hn)
      refine H [((0, 0, 0, 0, []), 1), ((27, 1, 0, 0, []), 1)] 110 _ _ _ (by decide +kernel) ?_
      refine And.intro (show (0 : Int) ≤ 0 ∧ (0 : Int) ≤ 1 from by decide) ?_
      exact Prod.mk.inj (Option.some.inj h)
    · refine And.intro (fun hp => absurd hp c12) (fun _ => ?_)
      obtain ⟨⟨vq13, σq13⟩, hq13, h⟩ := px_bind h
      dsimp only at h
      refine Exists.intro 1 (Exists.intro vq13 (Exists.intro σq13 (And.intro (Nat.le_of_ble_eq_true rfl) (And.intro (ok_Tape_accept_1 hq13) ?_))))
      rcases px_ite h with ⟨c14, h⟩ | ⟨c14, h⟩
      · refine And.intro (fun hp => absurd c14 hp) (fun _ => ?_)
        refine And.intro (show (0 : Int) ≤ 0 ∧ (0 : Int) ≤ 1 from by decide) ?_
        exact Prod.mk.inj (Option.some.inj h)
      · refine And.intro (fun _ => ?_) (fun hn => absurd c14 hn)
        refine H [((2, 0, 0, 0, []), 1), ((17, 57, 59, 0, []), 3), ((1, 2, 0, 0, []), 1), ((0, 0, 0, 1, []), 1), ((6, 0, 0, 0, []), 1), ((2, 0, 0, 0, []), 1), ((16, 57, 8, 0, []), 3), ((20, 59, 17, 0, []), 1), ((0, 0, 0, 1, []), 1), ((27, 1, 0, 0, []), 1)] 112 _ _ _ (by decide +kernel) ?_
        obtain ⟨g15, h⟩ := px_gd h
        refine And.intro g15 ?_
        refine And.intro (show (0 : Int) ≤ 1 ∧ (1 : Int) ≤ 1 from by decide) ?_
        exact Prod.mk.inj (Option.some.inj h)
theorem ok_Law_readRule_57_1_p23 {l : Launch} {rv : Int} {rσ : pS} {G : Nat → pL → List pV → pS → Prop} (H : px_R l 86 18 rv rσ G) : ∀ (a2 a3 : Int) (σ : pS), f_Law_readRule_57_1_p23 a2 a3 σ = some (rv, rσ) → G 23 [some (.inr 57), some (.inr 1), some (.inl a2), some (.inl a3)] [] σ := by
  intro a2 a3 σ h
  unfold f_Law_readRule_57_1_p23 at h
  refine H [((1, 2, 0, 0, []), 1), ((0, 0, 0, 16, []), 2), ((13, 2, 35, 0, []), 3), ((2, 1, 0, 0, []), 1), ((0, 0, 0, 4, []), 1), ((23, 20, 1, 1, [(0, 1)]), 3), ((27, 1, 0, 0, []), 1)] 23 _ _ _ (by decide +kernel) ?_
  rcases px_ite h with ⟨c3, h⟩ | ⟨c3, h⟩
  · refine And.intro (fun _ => ?_) (fun hn => absurd c3 hn)
    refine H [((2, 1, 0, 0, []), 1), ((23, 21, 0, 0, [(0, 1)]), 3), ((2, 0, 0, 0, []), 1), ((17, 57, 58, 0, []), 3), ((1, 2, 0, 0, []), 1), ((1, 3, 0, 0, []), 1), ((20, 58, 16, 0, []), 1), ((2, 0, 0, 0, []), 1), ((17, 57, 59, 0, []), 3), ((1, 2, 0, 0, []), 1), ((2, 0, 0, 0, []), 1), ((16, 57, 8, 0, []), 3), ((20, 59, 17, 0, []), 1), ((1, 3, 0, 0, []), 1), ((0, 0, 0, 100, []), 2), ((13, 1, 73, 0, []), 3), ((2, 0, 0, 0, []), 1), ((2, 1, 0, 0, []), 1), ((0, 0, 0, 0, []), 1), ((23, 22, 2, 1, [(0, 57)]), 3), ((14, 1, 73, 0, []), 3), ((0, 0, 0, 0, []), 1), ((27, 1, 0, 0, []), 1)] 35 _ _ _ (by decide +kernel) ?_
    obtain ⟨⟨vq4, σq4⟩, hq4, h⟩ := px_bind h
    dsimp only at h
    refine Exists.intro 0 (Exists.intro vq4 (Exists.intro σq4 (And.intro (Nat.le_of_ble_eq_true rfl) (And.intro (ok_Tape_step_1 hq4) ?_))))
    obtain ⟨g5, h⟩ := px_gd h
    refine And.intro g5 ?_
    obtain ⟨g6, h⟩ := px_gd h
    refine And.intro g6 ?_
    rcases px_ite h with ⟨c7, h⟩ | ⟨c7, h⟩
    · refine And.intro (fun hp => absurd c7 hp) (fun _ => ?_)
      obtain ⟨⟨vq16, σq16⟩, hq16, h⟩ := px_bind h
      dsimp only at h
      refine Exists.intro 44 (Exists.intro vq16 (Exists.intro σq16 (And.intro (Nat.le_of_ble_eq_true rfl) (And.intro (ok_rdS 40 _ _ _ _ _ hq16) ?_))))
      rcases px_ite h with ⟨c17, h⟩ | ⟨c17, h⟩
      · refine And.intro (fun hp => absurd c17 hp) (fun _ => ?_)
        refine And.intro (show (0 : Int) ≤ 0 ∧ (0 : Int) ≤ 1 from by decide) ?_
        exact Prod.mk.inj (Option.some.inj h)
      · refine And.intro (fun _ => ?_) (fun hn => absurd c17 hn)
        refine H [((29, 3, 0, 0, []), 0)] 73 _ _ _ (by decide +kernel) ?_
        exact ok_Law_readRule_57_1_p73 H _ _ h
    · refine And.intro (fun _ => ?_) (fun hn => absurd c7 hn)
      refine H [((29, 3, 0, 0, []), 0)] 73 _ _ _ (by decide +kernel) ?_
      exact ok_Law_readRule_57_1_p73 H _ _ h
  · refine And.intro (fun hp => absurd hp c3) (fun _ => ?_)
    obtain ⟨⟨vq18, σq18⟩, hq18, h⟩ := px_bind h
    dsimp only at h
    refine Exists.intro 0 (Exists.intro vq18 (Exists.intro σq18 (And.intro (Nat.le_of_ble_eq_true rfl) (And.intro (ok_Tape_fail_1 hq18) ?_))))
    obtain ⟨g19, h⟩ := px_gd h
    refine And.intro g19 ?_
    exact Prod.mk.inj (Option.some.inj h)
theorem ok_Law_readRule_57_1_w {l : Launch} {rv : Int} {rσ : pS} {G : Nat → pL → List pV → pS → Prop} (H : px_R l 86 18 rv rσ G) : ∀ (a2 : Int) (σ : pS), f_Law_readRule_57_1 a2 σ = some (rv, rσ) → G 0 [some (.inr 57), some (.inr 1), some (.inl a2), none] [] σ := by
  intro a2 σ h
  unfold f_Law_readRule_57_1 at h
  refine H [((2, 1, 0, 0, []), 1), ((23, 19, 0, 1, [(0, 1)]), 3), ((3, 3, 0, 0, []), 1), ((1, 3, 0, 0, []), 1), ((0, 0, 0, 100, []), 2), ((13, 0, 23, 0, []), 3), ((1, 3, 0, 0, []), 1), ((0, 0, 0, 120, []), 2), ((13, 0, 23, 0, []), 3), ((2, 1, 0, 0, []), 1), ((0, 0, 0, 1, []), 1), ((23, 20, 1, 1, [(0, 1)]), 3), ((27, 1, 0, 0, []), 1)] 0 _ _ _ (by decide +kernel) ?_
  obtain ⟨⟨vq1, σq1⟩, hq1, h⟩ := px_bind h
  dsimp only at h
  refine Exists.intro 0 (Exists.intro vq1 (Exists.intro σq1 (And.intro (Nat.le_of_ble_eq_true rfl) (And.intro (ok_Tape_sign_1 hq1) ?_))))
  rcases px_ite h with ⟨c2, h⟩ | ⟨c2, h⟩
  · refine And.intro (fun _ => ?_) (fun hn => absurd c2 hn)
    exact ok_Law_readRule_57_1_p23 H _ _ _ h
  · refine And.intro (fun hp => absurd hp c2) (fun _ => ?_)
    rcases px_ite h with ⟨c20, h⟩ | ⟨c20, h⟩
    · refine And.intro (fun _ => ?_) (fun hn => absurd c20 hn)
      exact ok_Law_readRule_57_1_p23 H _ _ _ h
    · refine And.intro (fun hp => absurd hp c20) (fun _ => ?_)
      obtain ⟨⟨vq21, σq21⟩, hq21, h⟩ := px_bind h
      dsimp only at h
      refine Exists.intro 0 (Exists.intro vq21 (Exists.intro σq21 (And.intro (Nat.le_of_ble_eq_true rfl) (And.intro (ok_Tape_fail_1 hq21) ?_))))
      obtain ⟨g22, h⟩ := px_gd h
      refine And.intro g22 ?_
      exact Prod.mk.inj (Option.some.inj h)
theorem ok_Law_readRule_57_1 {l : Launch} {a2 : Int} {σ : pS} {v : Int} {σ1 : pS} (h : f_Law_readRule_57_1 a2 σ = some (v, σ1)) : Con l 86 18 [.inr 57, .inr 1, .inl a2] σ v σ1 := Con_mk 3 4 rfl (by decide +kernel) (fun _ H => ok_Law_readRule_57_1_w H _ _ h)
theorem ok_Law_readFrom_57_1_p7 {l : Launch} {rv : Int} {rσ : pS} {G : Nat → pL → List pV → pS → Prop} (H : px_R l 87 17 rv rσ G) : ∀ (n : Nat) (a2 : Int) (σ : pS), f_Law_readFrom_57_1_p7 n a2 σ = some (rv, rσ) → G 7 [some (.inr 57), some (.inr 1), some (.inl a2)] [] σ := by
  intro n
  induction n with
  | zero =>
    intro a2 σ h
    unfold f_Law_readFrom_57_1_p7 at h
    cases h
  | succ n ih =>
    intro a2 σ h
    unfold f_Law_readFrom_57_1_p7 at h
    refine H [((1, 2, 0, 0, []), 1), ((0, 0, 0, 16, []), 2), ((13, 4, 66, 0, []), 3), ((2, 0, 0, 0, []), 1), ((2, 1, 0, 0, []), 1), ((1, 2, 0, 0, []), 1), ((23, 18, 2, 1, [(0, 57)]), 3), ((14, 1, 27, 0, []), 3), ((2, 1, 0, 0, []), 1), ((23, 36, 0, 1, [(0, 1)]), 3), ((27, 0, 0, 0, []), 1)] 7 _ _ _ (by decide +kernel) ?_
    rcases px_ite h with ⟨c1, h⟩ | ⟨c1, h⟩
    · refine And.intro (fun _ => ?_) (fun hn => absurd c1 hn)
      refine H [((2, 1, 0, 0, []), 1), ((23, 36, 0, 1, [(0, 1)]), 3), ((27, 0, 0, 0, []), 1)] 66 _ _ _ (by decide +kernel) ?_
      obtain ⟨⟨vq2, σq2⟩, hq2, h⟩ := px_bind h
      dsimp only at h
      refine Exists.intro 0 (Exists.intro vq2 (Exists.intro σq2 (And.intro (Nat.le_of_ble_eq_true rfl) (And.intro (ok_Tape_fault_1 hq2) ?_))))
      exact Prod.mk.inj (Option.some.inj h)
    · refine And.intro (fun hp => absurd hp c1) (fun _ => ?_)
      obtain ⟨⟨vq3, σq3⟩, hq3, h⟩ := px_bind h
      dsimp only at h
      refine Exists.intro 86 (Exists.intro vq3 (Exists.intro σq3 (And.intro (Nat.le_of_ble_eq_true rfl) (And.intro (ok_Law_readRule_57_1 hq3) ?_))))
      rcases px_ite h with ⟨c4, h⟩ | ⟨c4, h⟩
      · refine And.intro (fun hp => absurd c4 hp) (fun _ => ?_)
        obtain ⟨⟨vq10, σq10⟩, hq10, h⟩ := px_bind h
        dsimp only at h
        refine Exists.intro 0 (Exists.intro vq10 (Exists.intro σq10 (And.intro (Nat.le_of_ble_eq_true rfl) (And.intro (ok_Tape_fault_1 hq10) ?_))))
        exact Prod.mk.inj (Option.some.inj h)
      · refine And.intro (fun _ => ?_) (fun hn => absurd c4 hn)
        refine H [((2, 1, 0, 0, []), 1), ((23, 37, 0, 1, [(0, 1)]), 3), ((14, 0, 46, 0, []), 3), ((2, 0, 0, 0, []), 1), ((1, 2, 0, 0, []), 1), ((0, 0, 0, 1, []), 1), ((6, 0, 0, 0, []), 1), ((18, 57, 7, 0, []), 3), ((2, 0, 0, 0, []), 1), ((16, 57, 7, 0, []), 3), ((27, 0, 0, 0, []), 1)] 27 _ _ _ (by decide +kernel) ?_
        obtain ⟨⟨vq5, σq5⟩, hq5, h⟩ := px_bind h
        dsimp only at h
        refine Exists.intro 0 (Exists.intro vq5 (Exists.intro σq5 (And.intro (Nat.le_of_ble_eq_true rfl) (And.intro (ok_Tape_ended_1 hq5) ?_))))
        rcases px_ite h with ⟨c6, h⟩ | ⟨c6, h⟩
        · refine And.intro (fun _ => ?_) (fun hn => absurd c6 hn)
          refine H [((2, 1, 0, 0, []), 1), ((0, 0, 0, 59, []), 2), ((23, 26, 1, 1, [(0, 1)]), 3), ((14, 1, 60, 0, []), 3), ((2, 1, 0, 0, []), 1), ((23, 36, 0, 1, [(0, 1)]), 3), ((27, 0, 0, 0, []), 1)] 46 _ _ _ (by decide +kernel) ?_
          obtain ⟨⟨vq7, σq7⟩, hq7, h⟩ := px_bind h
          dsimp only at h
          refine Exists.intro 1 (Exists.intro vq7 (Exists.intro σq7 (And.intro (Nat.le_of_ble_eq_true rfl) (And.intro (ok_Tape_accept_1 hq7) ?_))))
          rcases px_ite h with ⟨c8, h⟩ | ⟨c8, h⟩
          · refine And.intro (fun hp => absurd c8 hp) (fun _ => ?_)
            obtain ⟨⟨vq9, σq9⟩, hq9, h⟩ := px_bind h
            dsimp only at h
            refine Exists.intro 0 (Exists.intro vq9 (Exists.intro σq9 (And.intro (Nat.le_of_ble_eq_true rfl) (And.intro (ok_Tape_fault_1 hq9) ?_))))
            exact Prod.mk.inj (Option.some.inj h)
          · refine And.intro (fun _ => ?_) (fun hn => absurd c8 hn)
            refine H [((5, 2, 0, 1, []), 3), ((12, 0, 7, 0, []), 3)] 60 _ _ _ (by decide +kernel) ?_
            exact ih _ _ h
        · refine And.intro (fun hp => absurd hp c6) (fun _ => ?_)
          exact Prod.mk.inj (Option.some.inj h)
theorem ok_Law_readFrom_57_1_w {l : Launch} {rv : Int} {rσ : pS} {G : Nat → pL → List pV → pS → Prop} (H : px_R l 87 17 rv rσ G) : ∀ (σ : pS), f_Law_readFrom_57_1  σ = some (rv, rσ) → G 0 [some (.inr 57), some (.inr 1), none] [] σ := by
  intro  σ h
  unfold f_Law_readFrom_57_1 at h
  refine H [((2, 0, 0, 0, []), 1), ((0, 0, 0, 0, []), 1), ((18, 57, 8, 0, []), 3), ((0, 0, 0, 0, []), 1), ((3, 2, 0, 0, []), 1)] 0 _ _ _ (by decide +kernel) ?_
  exact ok_Law_readFrom_57_1_p7 H _ _ _ h
theorem ok_Law_readFrom_57_1 {l : Launch} {σ : pS} {v : Int} {σ1 : pS} (h : f_Law_readFrom_57_1  σ = some (v, σ1)) : Con l 87 17 [.inr 57, .inr 1] σ v σ1 := Con_mk 2 3 rfl (by decide +kernel) (fun _ H => ok_Law_readFrom_57_1_w H  _ h)
theorem ok_Law_copyFrom_16_57_w {l : Launch} {rv : Int} {rσ : pS} {G : Nat → pL → List pV → pS → Prop} (H : px_R l 1 38 rv rσ G) : ∀ (σ : pS), f_Law_copyFrom_16_57  σ = some (rv, rσ) → G 0 [some (.inr 16), some (.inr 57)] [] σ := by
  intro  σ h
  unfold f_Law_copyFrom_16_57 at h
  refine H [((2, 1, 0, 0, []), 1), ((17, 57, 58, 0, []), 3), ((0, 0, 0, 0, []), 1), ((2, 0, 0, 0, []), 1), ((17, 16, 17, 0, []), 3), ((0, 0, 0, 0, []), 1), ((0, 0, 0, 16, []), 2), ((26, 58, 17, 16, []), 3), ((2, 1, 0, 0, []), 1), ((17, 57, 59, 0, []), 3), ((0, 0, 0, 0, []), 1), ((2, 0, 0, 0, []), 1), ((17, 16, 18, 0, []), 3), ((0, 0, 0, 0, []), 1), ((0, 0, 0, 17, []), 2), ((26, 59, 18, 17, []), 3), ((2, 1, 0, 0, []), 1), ((17, 57, 60, 0, []), 3), ((0, 0, 0, 0, []), 1), ((2, 0, 0, 0, []), 1), ((17, 16, 19, 0, []), 3), ((0, 0, 0, 0, []), 1), ((0, 0, 0, 16, []), 2), ((26, 60, 19, 16, []), 3), ((2, 1, 0, 0, []), 1), ((17, 57, 61, 0, []), 3), ((0, 0, 0, 0, []), 1), ((2, 0, 0, 0, []), 1), ((17, 16, 20, 0, []), 3), ((0, 0, 0, 0, []), 1), ((0, 0, 0, 240, []), 3), ((26, 61, 20, 240, []), 3), ((2, 1, 0, 0, []), 1), ((17, 57, 62, 0, []), 3), ((0, 0, 0, 0, []), 1), ((2, 0, 0, 0, []), 1), ((17, 16, 21, 0, []), 3), ((0, 0, 0, 0, []), 1), ((0, 0, 0, 240, []), 3), ((26, 62, 21, 240, []), 3), ((2, 0, 0, 0, []), 1), ((2, 1, 0, 0, []), 1), ((16, 57, 7, 0, []), 3), ((18, 16, 7, 0, []), 3), ((28, 0, 0, 0, []), 1)] 0 _ _ _ (by decide +kernel) ?_
  exact (Prod.mk.inj (Option.some.inj h)).2
theorem ok_Law_copyFrom_16_57 {l : Launch} {σ : pS} {v : Int} {σ1 : pS} (h : f_Law_copyFrom_16_57  σ = some (v, σ1)) : Con l 1 38 [.inr 16, .inr 57] σ v σ1 := Con_mk 2 2 rfl (by decide +kernel) (fun _ H => ok_Law_copyFrom_16_57_w H  _ h)
theorem ok_X_law_0_p63 {l : Launch} {rv : Int} {rσ : pS} {G : Nat → pL → List pV → pS → Prop} (H : px_R l 88 14 rv rσ G) : ∀ (a2 : Int) (σ : pS), f_X_law_0_p63 a2 σ = some (rv, rσ) → G 63 [some (.inr 0), none, some (.inl a2)] [] σ := by
  intro a2 σ h
  unfold f_X_law_0_p63 at h
  refine H [((2, 0, 0, 0, []), 1), ((17, 0, 1, 0, []), 3), ((23, 39, 0, 0, [(0, 1)]), 3), ((1, 2, 0, 0, []), 1), ((27, 0, 0, 0, []), 1)] 63 _ _ _ (by decide +kernel) ?_
  obtain ⟨⟨vq7, σq7⟩, hq7, h⟩ := px_bind h
  dsimp only at h
  refine Exists.intro 0 (Exists.intro vq7 (Exists.intro σq7 (And.intro (Nat.le_of_ble_eq_true rfl) (And.intro (ok_Tape_clear_1 hq7) ?_))))
  exact Prod.mk.inj (Option.some.inj h)
theorem ok_X_law_0_w {l : Launch} {rv : Int} {rσ : pS} {G : Nat → pL → List pV → pS → Prop} (H : px_R l 88 14 rv rσ G) : ∀ (a1 : Int) (σ : pS), f_X_law_0 a1 σ = some (rv, rσ) → G 0 [some (.inr 0), some (.inl a1), none] [] σ := by
  intro a1 σ h
  unfold f_X_law_0 at h
  refine H [((1, 1, 0, 0, []), 1), ((0, 0, 0, 1, []), 1), ((13, 2, 23, 0, []), 3), ((1, 1, 0, 0, []), 1), ((0, 0, 0, 240, []), 3), ((13, 4, 23, 0, []), 3), ((1, 1, 0, 0, []), 1), ((2, 0, 0, 0, []), 1), ((17, 0, 1, 0, []), 3), ((16, 1, 1, 0, []), 3), ((13, 5, 25, 0, []), 3), ((0, 0, 0, (-1), []), 1), ((27, 0, 0, 0, []), 1)] 0 _ _ _ (by decide +kernel) ?_
  rcases px_ite h with ⟨c1, h⟩ | ⟨c1, h⟩
  · refine And.intro (fun _ => ?_) (fun hn => absurd c1 hn)
    refine H [((0, 0, 0, (-1), []), 1), ((27, 0, 0, 0, []), 1)] 23 _ _ _ (by decide +kernel) ?_
    exact Prod.mk.inj (Option.some.inj h)
  · refine And.intro (fun hp => absurd hp c1) (fun _ => ?_)
    rcases px_ite h with ⟨c2, h⟩ | ⟨c2, h⟩
    · refine And.intro (fun _ => ?_) (fun hn => absurd c2 hn)
      refine H [((0, 0, 0, (-1), []), 1), ((27, 0, 0, 0, []), 1)] 23 _ _ _ (by decide +kernel) ?_
      exact Prod.mk.inj (Option.some.inj h)
    · refine And.intro (fun hp => absurd hp c2) (fun _ => ?_)
      rcases px_ite h with ⟨c3, h⟩ | ⟨c3, h⟩
      · refine And.intro (fun _ => ?_) (fun hn => absurd c3 hn)
        refine H [((2, 0, 0, 0, []), 1), ((17, 0, 1, 0, []), 3), ((1, 1, 0, 0, []), 1), ((23, 15, 1, 0, [(0, 1)]), 3), ((2, 0, 0, 0, []), 1), ((17, 0, 57, 0, []), 3), ((2, 0, 0, 0, []), 1), ((17, 0, 1, 0, []), 3), ((23, 17, 1, 1, [(0, 57)]), 3), ((3, 2, 0, 0, []), 1), ((1, 2, 0, 0, []), 1), ((14, 2, 63, 0, []), 3), ((2, 0, 0, 0, []), 1), ((17, 0, 3, 0, []), 3), ((17, 3, 16, 0, []), 3), ((2, 0, 0, 0, []), 1), ((17, 0, 57, 0, []), 3), ((23, 38, 1, 0, [(0, 16)]), 3), ((29, 1, 0, 0, []), 0)] 25 _ _ _ (by decide +kernel) ?_
        obtain ⟨⟨vq4, σq4⟩, hq4, h⟩ := px_bind h
        dsimp only at h
        refine Exists.intro 1 (Exists.intro vq4 (Exists.intro σq4 (And.intro (Nat.le_of_ble_eq_true rfl) (And.intro (ok_Tape_beginText_1 hq4) ?_))))
        obtain ⟨⟨vq5, σq5⟩, hq5, h⟩ := px_bind h
        dsimp only at h
        refine Exists.intro 87 (Exists.intro vq5 (Exists.intro σq5 (And.intro (Nat.le_of_ble_eq_true rfl) (And.intro (ok_Law_readFrom_57_1 hq5) ?_))))
        rcases px_ite h with ⟨c6, h⟩ | ⟨c6, h⟩
        · refine And.intro (fun _ => ?_) (fun hn => absurd c6 hn)
          refine H [((29, 1, 0, 0, []), 0)] 63 _ _ _ (by decide +kernel) ?_
          exact ok_X_law_0_p63 H _ _ h
        · refine And.intro (fun hp => absurd hp c6) (fun _ => ?_)
          obtain ⟨⟨vq8, σq8⟩, hq8, h⟩ := px_bind h
          dsimp only at h
          refine Exists.intro 1 (Exists.intro vq8 (Exists.intro σq8 (And.intro (Nat.le_of_ble_eq_true rfl) (And.intro (ok_Law_copyFrom_16_57 hq8) ?_))))
          exact ok_X_law_0_p63 H _ _ h
      · refine And.intro (fun hp => absurd hp c3) (fun _ => ?_)
        exact Prod.mk.inj (Option.some.inj h)
theorem ok_X_law_0 {l : Launch} {a1 : Int} {σ : pS} {v : Int} {σ1 : pS} (h : f_X_law_0 a1 σ = some (v, σ1)) : Con l 88 14 [.inr 0, .inl a1] σ v σ1 := Con_mk 2 3 rfl (by decide +kernel) (fun _ H => ok_X_law_0_w H _ _ h)
theorem ok_M_opens_84_w {l : Launch} {rv : Int} {rσ : pS} {G : Nat → pL → List pV → pS → Prop} (H : px_R l 1 148 rv rσ G) : ∀ (a1 : Int) (σ : pS), f_M_opens_84 a1 σ = some (rv, rσ) → G 0 [some (.inr 84), some (.inl a1)] [] σ := by
  intro a1 σ h
  unfold f_M_opens_84 at h
  refine H [((2, 0, 0, 0, []), 1), ((16, 84, 23, 0, []), 3), ((0, 0, 0, 6, []), 2), ((13, 1, 19, 0, []), 3), ((2, 0, 0, 0, []), 1), ((0, 0, 0, 5, []), 1), ((2, 0, 0, 0, []), 1), ((16, 84, 19, 0, []), 3), ((23, 145, 2, 1, [(0, 84)]), 3), ((27, 1, 0, 0, []), 1)] 0 _ _ _ (by decide +kernel) ?_
  rcases px_ite h with ⟨c1, h⟩ | ⟨c1, h⟩
  · refine And.intro (fun hp => absurd c1 hp) (fun _ => ?_)
    obtain ⟨⟨vq3, σq3⟩, hq3, h⟩ := px_bind h
    dsimp only at h
    refine Exists.intro 0 (Exists.intro vq3 (Exists.intro σq3 (And.intro (Nat.le_of_ble_eq_true rfl) (And.intro (ok_M_wrongAt_84 hq3) ?_))))
    obtain ⟨g4, h⟩ := px_gd h
    refine And.intro g4 ?_
    exact Prod.mk.inj (Option.some.inj h)
  · refine And.intro (fun _ => ?_) (fun hn => absurd c1 hn)
    refine H [((2, 0, 0, 0, []), 1), ((2, 0, 0, 0, []), 1), ((16, 84, 23, 0, []), 3), ((0, 0, 0, 1, []), 1), ((6, 0, 0, 0, []), 1), ((18, 84, 23, 0, []), 3), ((2, 0, 0, 0, []), 1), ((17, 84, 98, 0, []), 3), ((2, 0, 0, 0, []), 1), ((16, 84, 25, 0, []), 3), ((0, 0, 0, 1048576, []), 2), ((1, 1, 0, 0, []), 1), ((6, 2, 0, 0, []), 1), ((20, 98, 260, 0, []), 1), ((2, 0, 0, 0, []), 1), ((2, 0, 0, 0, []), 1), ((16, 84, 25, 0, []), 3), ((0, 0, 0, 1, []), 1), ((6, 0, 0, 0, []), 1), ((18, 84, 25, 0, []), 3), ((2, 0, 0, 0, []), 1), ((2, 0, 0, 0, []), 1), ((16, 84, 19, 0, []), 3), ((0, 0, 0, 1, []), 1), ((6, 0, 0, 0, []), 1), ((18, 84, 19, 0, []), 3), ((0, 0, 0, 1, []), 1), ((27, 1, 0, 0, []), 1)] 19 _ _ _ (by decide +kernel) ?_
    obtain ⟨g2, h⟩ := px_gd h
    refine And.intro g2 ?_
    refine And.intro (show (0 : Int) ≤ 1 ∧ (1 : Int) ≤ 1 from by decide) ?_
    exact Prod.mk.inj (Option.some.inj h)
theorem ok_M_opens_84 {l : Launch} {a1 : Int} {σ : pS} {v : Int} {σ1 : pS} (h : f_M_opens_84 a1 σ = some (v, σ1)) : Con l 1 148 [.inr 84, .inl a1] σ v σ1 := Con_mk 2 2 rfl (by decide +kernel) (fun _ H => ok_M_opens_84_w H _ _ h)
theorem ok_M_factOf_w {l : Launch} {rv : Int} {rσ : pS} {G : Nat → pL → List pV → pS → Prop} (H : px_R l 0 152 rv rσ G) : ∀ (a0 : Int) (σ : pS), f_M_factOf a0 σ = some (rv, rσ) → G 0 [some (.inl a0)] [] σ := by
  intro a0 σ h
  unfold f_M_factOf at h
  refine H [((1, 0, 0, 0, []), 1), ((15, 0, 115, 0, [(99, 104), (100, 115), (101, 115), (102, 115), (103, 115), (104, 115), (105, 100), (106, 115), (107, 102), (108, 115), (109, 115), (110, 108), (111, 115), (112, 115), (113, 115), (114, 110), (115, 106), (116, 115), (117, 115), (118, 115), (119, 112)]), 99)] 0 _ _ _ (by decide +kernel) ?_
  rcases px_ite h with ⟨c1, h⟩ | ⟨c1, h⟩
  · refine And.intro (fun _ => ?_) (fun hn => absurd c1 hn)
    refine H [((0, 0, 0, 2, []), 1), ((27, 0, 0, 0, []), 1)] 104 _ _ _ (by decide +kernel) ?_
    exact Prod.mk.inj (Option.some.inj h)
  · refine And.intro (fun hp => absurd hp c1) (fun _ => ?_)
    rcases px_ite h with ⟨c2, h⟩ | ⟨c2, h⟩
    · refine And.intro (fun _ => ?_) (fun hn => absurd c2 hn)
      refine H [((0, 0, 0, (-1), []), 1), ((27, 0, 0, 0, []), 1)] 115 _ _ _ (by decide +kernel) ?_
      exact Prod.mk.inj (Option.some.inj h)
    · refine And.intro (fun hp => absurd hp c2) (fun _ => ?_)
      rcases px_ite h with ⟨c3, h⟩ | ⟨c3, h⟩
      · refine And.intro (fun _ => ?_) (fun hn => absurd c3 hn)
        refine H [((0, 0, 0, (-1), []), 1), ((27, 0, 0, 0, []), 1)] 115 _ _ _ (by decide +kernel) ?_
        exact Prod.mk.inj (Option.some.inj h)
      · refine And.intro (fun hp => absurd hp c3) (fun _ => ?_)
        rcases px_ite h with ⟨c4, h⟩ | ⟨c4, h⟩
        · refine And.intro (fun _ => ?_) (fun hn => absurd c4 hn)
          refine H [((0, 0, 0, (-1), []), 1), ((27, 0, 0, 0, []), 1)] 115 _ _ _ (by decide +kernel) ?_
          exact Prod.mk.inj (Option.some.inj h)
        · refine And.intro (fun hp => absurd hp c4) (fun _ => ?_)
          rcases px_ite h with ⟨c5, h⟩ | ⟨c5, h⟩
          · refine And.intro (fun _ => ?_) (fun hn => absurd c5 hn)
            refine H [((0, 0, 0, (-1), []), 1), ((27, 0, 0, 0, []), 1)] 115 _ _ _ (by decide +kernel) ?_
            exact Prod.mk.inj (Option.some.inj h)
          · refine And.intro (fun hp => absurd hp c5) (fun _ => ?_)
            rcases px_ite h with ⟨c6, h⟩ | ⟨c6, h⟩
            · refine And.intro (fun _ => ?_) (fun hn => absurd c6 hn)
              refine H [((0, 0, 0, (-1), []), 1), ((27, 0, 0, 0, []), 1)] 115 _ _ _ (by decide +kernel) ?_
              exact Prod.mk.inj (Option.some.inj h)
            · refine And.intro (fun hp => absurd hp c6) (fun _ => ?_)
              rcases px_ite h with ⟨c7, h⟩ | ⟨c7, h⟩
              · refine And.intro (fun _ => ?_) (fun hn => absurd c7 hn)
                refine H [((0, 0, 0, 0, []), 1), ((27, 0, 0, 0, []), 1)] 100 _ _ _ (by decide +kernel) ?_
                exact Prod.mk.inj (Option.some.inj h)
              · refine And.intro (fun hp => absurd hp c7) (fun _ => ?_)
                rcases px_ite h with ⟨c8, h⟩ | ⟨c8, h⟩
                · refine And.intro (fun _ => ?_) (fun hn => absurd c8 hn)
                  refine H [((0, 0, 0, (-1), []), 1), ((27, 0, 0, 0, []), 1)] 115 _ _ _ (by decide +kernel) ?_
                  exact Prod.mk.inj (Option.some.inj h)
                · refine And.intro (fun hp => absurd hp c8) (fun _ => ?_)
                  rcases px_ite h with ⟨c9, h⟩ | ⟨c9, h⟩
                  · refine And.intro (fun _ => ?_) (fun hn => absurd c9 hn)
                    refine H [((0, 0, 0, 1, []), 1), ((27, 0, 0, 0, []), 1)] 102 _ _ _ (by decide +kernel) ?_
                    exact Prod.mk.inj (Option.some.inj h)
                  · refine And.intro (fun hp => absurd hp c9) (fun _ => ?_)
                    rcases px_ite h with ⟨c10, h⟩ | ⟨c10, h⟩
                    · refine And.intro (fun _ => ?_) (fun hn => absurd c10 hn)
                      refine H [((0, 0, 0, (-1), []), 1), ((27, 0, 0, 0, []), 1)] 115 _ _ _ (by decide +kernel) ?_
                      exact Prod.mk.inj (Option.some.inj h)
                    · refine And.intro (fun hp => absurd hp c10) (fun _ => ?_)
                      rcases px_ite h with ⟨c11, h⟩ | ⟨c11, h⟩
                      · refine And.intro (fun _ => ?_) (fun hn => absurd c11 hn)
                        refine H [((0, 0, 0, (-1), []), 1), ((27, 0, 0, 0, []), 1)] 115 _ _ _ (by decide +kernel) ?_
                        exact Prod.mk.inj (Option.some.inj h)
                      · refine And.intro (fun hp => absurd hp c11) (fun _ => ?_)
                        rcases px_ite h with ⟨c12, h⟩ | ⟨c12, h⟩
                        · refine And.intro (fun _ => ?_) (fun hn => absurd c12 hn)
                          refine H [((0, 0, 0, 4, []), 1), ((27, 0, 0, 0, []), 1)] 108 _ _ _ (by decide +kernel) ?_
                          exact Prod.mk.inj (Option.some.inj h)
                        · refine And.intro (fun hp => absurd hp c12) (fun _ => ?_)
                          rcases px_ite h with ⟨c13, h⟩ | ⟨c13, h⟩
                          · refine And.intro (fun _ => ?_) (fun hn => absurd c13 hn)
                            refine H [((0, 0, 0, (-1), []), 1), ((27, 0, 0, 0, []), 1)] 115 _ _ _ (by decide +kernel) ?_
                            exact Prod.mk.inj (Option.some.inj h)
                          · refine And.intro (fun hp => absurd hp c13) (fun _ => ?_)
                            rcases px_ite h with ⟨c14, h⟩ | ⟨c14, h⟩
                            · refine And.intro (fun _ => ?_) (fun hn => absurd c14 hn)
                              refine H [((0, 0, 0, (-1), []), 1), ((27, 0, 0, 0, []), 1)] 115 _ _ _ (by decide +kernel) ?_
                              exact Prod.mk.inj (Option.some.inj h)
                            · refine And.intro (fun hp => absurd hp c14) (fun _ => ?_)
                              rcases px_ite h with ⟨c15, h⟩ | ⟨c15, h⟩
                              · refine And.intro (fun _ => ?_) (fun hn => absurd c15 hn)
                                refine H [((0, 0, 0, (-1), []), 1), ((27, 0, 0, 0, []), 1)] 115 _ _ _ (by decide +kernel) ?_
                                exact Prod.mk.inj (Option.some.inj h)
                              · refine And.intro (fun hp => absurd hp c15) (fun _ => ?_)
                                rcases px_ite h with ⟨c16, h⟩ | ⟨c16, h⟩
                                · refine And.intro (fun _ => ?_) (fun hn => absurd c16 hn)
                                  refine H [((0, 0, 0, 5, []), 1), ((27, 0, 0, 0, []), 1)] 110 _ _ _ (by decide +kernel) ?_
                                  exact Prod.mk.inj (Option.some.inj h)
                                · refine And.intro (fun hp => absurd hp c16) (fun _ => ?_)
                                  rcases px_ite h with ⟨c17, h⟩ | ⟨c17, h⟩
                                  · refine And.intro (fun _ => ?_) (fun hn => absurd c17 hn)
                                    refine H [((0, 0, 0, 3, []), 1), ((27, 0, 0, 0, []), 1)] 106 _ _ _ (by decide +kernel) ?_
                                    exact Prod.mk.inj (Option.some.inj h)
                                  · refine And.intro (fun hp => absurd hp c17) (fun _ => ?_)
                                    rcases px_ite h with ⟨c18, h⟩ | ⟨c18, h⟩
                                    · refine And.intro (fun _ => ?_) (fun hn => absurd c18 hn)
                                      refine H [((0, 0, 0, (-1), []), 1), ((27, 0, 0, 0, []), 1)] 115 _ _ _ (by decide +kernel) ?_
                                      exact Prod.mk.inj (Option.some.inj h)
                                    · refine And.intro (fun hp => absurd hp c18) (fun _ => ?_)
                                      rcases px_ite h with ⟨c19, h⟩ | ⟨c19, h⟩
                                      · refine And.intro (fun _ => ?_) (fun hn => absurd c19 hn)
                                        refine H [((0, 0, 0, (-1), []), 1), ((27, 0, 0, 0, []), 1)] 115 _ _ _ (by decide +kernel) ?_
                                        exact Prod.mk.inj (Option.some.inj h)
                                      · refine And.intro (fun hp => absurd hp c19) (fun _ => ?_)
                                        rcases px_ite h with ⟨c20, h⟩ | ⟨c20, h⟩
                                        · refine And.intro (fun _ => ?_) (fun hn => absurd c20 hn)
                                          refine H [((0, 0, 0, (-1), []), 1), ((27, 0, 0, 0, []), 1)] 115 _ _ _ (by decide +kernel) ?_
                                          exact Prod.mk.inj (Option.some.inj h)
                                        · refine And.intro (fun hp => absurd hp c20) (fun _ => ?_)
                                          rcases px_ite h with ⟨c21, h⟩ | ⟨c21, h⟩
                                          · refine And.intro (fun _ => ?_) (fun hn => absurd c21 hn)
                                            refine H [((0, 0, 0, 6, []), 2), ((27, 0, 0, 0, []), 1)] 112 _ _ _ (by decide +kernel) ?_
                                            exact Prod.mk.inj (Option.some.inj h)
                                          · refine And.intro (fun hp => absurd hp c21) (fun _ => ?_)
                                            refine H [((0, 0, 0, (-1), []), 1), ((27, 0, 0, 0, []), 1)] 115 _ _ _ (by decide +kernel) ?_
                                            exact Prod.mk.inj (Option.some.inj h)
theorem ok_M_factOf {l : Launch} {a0 : Int} {σ : pS} {v : Int} {σ1 : pS} (h : f_M_factOf a0 σ = some (v, σ1)) : Con l 0 152 [.inl a0] σ v σ1 := Con_mk 1 1 rfl (by decide +kernel) (fun _ H => ok_M_factOf_w H _ _ h)
