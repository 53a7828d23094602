theorem ok_Law_readSum_57_1_p13 {l : Launch} {rv : Int} {rσ : pS} {G : Nat → pL → List pV → pS → Prop} {fd fr : Nat} {rc : Nat → Int → pS → Option (Int × pS)} (hrc : ∀ w a σ v σ1, rc w a σ = some (v, σ1) → Con l fd (mi_rdS w) [.inr 57, .inr 1, .inl a] σ v σ1) (hfd : fd + 1 ≤ fr) (hfr : 1 ≤ fr) (H : px_R l fr 22 rv rσ G) : ∀ (n : Nat) (a2 a3 : Int) (σ : pS), f_Law_readSum_57_1_p13 rc n a2 a3 σ = some (rv, rσ) → G 13 [some (.inr 57), some (.inr 1), some (.inl a2), some (.inl a3), none] [] σ := by
  intro n
  induction n with
  | zero =>
    intro a2 a3 σ h
    unfold f_Law_readSum_57_1_p13 at h
    cases h
  | succ n ih =>
    intro a2 a3 σ h
    unfold f_Law_readSum_57_1_p13 at h
    refine H [((1, 3, 0, 0, []), 1), ((0, 0, 0, 240, []), 3), ((13, 3, 71, 0, []), 3), ((2, 1, 0, 0, []), 1), ((23, 19, 0, 1, [(0, 1)]), 3), ((0, 0, 0, 43, []), 2), ((0, 0, 0, 45, []), 2), ((0, 0, 0, 45, []), 2), ((24, 31, 4, 1, []), 3), ((14, 0, 71, 0, []), 3), ((2, 1, 0, 0, []), 1), ((23, 19, 0, 1, [(0, 1)]), 3), ((3, 4, 0, 0, []), 2), ((2, 1, 0, 0, []), 1), ((23, 21, 0, 0, [(0, 1)]), 3), ((2, 0, 0, 0, []), 1), ((2, 1, 0, 0, []), 1), ((1, 2, 0, 0, []), 1), ((23, 23, 2, 1, [(0, 57)]), 3), ((14, 1, 57, 0, []), 3), ((0, 0, 0, 0, []), 1), ((27, 1, 0, 0, []), 1)] 13 _ _ _ (by decide +kernel) ?_
    rcases px_ite h with ⟨c3, h⟩ | ⟨c3, h⟩
    · refine And.intro (fun _ => ?_) (fun hn => absurd c3 hn)
      refine H [((0, 0, 0, 1, []), 1), ((27, 1, 0, 0, []), 1)] 71 _ _ _ (by decide +kernel) ?_
      refine And.intro (show (0 : Int) ≤ 1 ∧ (1 : Int) ≤ 1 from by decide) ?_
      exact Prod.mk.inj (Option.some.inj h)
    · refine And.intro (fun hp => absurd hp c3) (fun _ => ?_)
      obtain ⟨⟨vq4, σq4⟩, hq4, h⟩ := px_bind h
      dsimp only at h
      refine Exists.intro 0 (Exists.intro vq4 (Exists.intro σq4 (And.intro (Nat.le_trans (Nat.le_of_ble_eq_true rfl) hfr) (And.intro (ok_Tape_sign_1 hq4) ?_))))
      obtain ⟨⟨vq5, σq5⟩, hq5, h⟩ := px_bind h
      dsimp only at h
      refine Exists.intro 0 (Exists.intro vq5 (Exists.intro σq5 (And.intro (Nat.le_trans (Nat.le_of_ble_eq_true rfl) hfr) (And.intro (ok_Law_isOneOf hq5) ?_))))
      rcases px_ite h with ⟨c6, h⟩ | ⟨c6, h⟩
      · refine And.intro (fun _ => ?_) (fun hn => absurd c6 hn)
        refine H [((0, 0, 0, 1, []), 1), ((27, 1, 0, 0, []), 1)] 71 _ _ _ (by decide +kernel) ?_
        refine And.intro (show (0 : Int) ≤ 1 ∧ (1 : Int) ≤ 1 from by decide) ?_
        exact Prod.mk.inj (Option.some.inj h)
      · refine And.intro (fun hp => absurd hp c6) (fun _ => ?_)
        obtain ⟨⟨vq7, σq7⟩, hq7, h⟩ := px_bind h
        dsimp only at h
        refine Exists.intro 0 (Exists.intro vq7 (Exists.intro σq7 (And.intro (Nat.le_trans (Nat.le_of_ble_eq_true rfl) hfr) (And.intro (ok_Tape_sign_1 hq7) ?_))))
        obtain ⟨⟨vq8, σq8⟩, hq8, h⟩ := px_bind h
        dsimp only at h
        refine Exists.intro 0 (Exists.intro vq8 (Exists.intro σq8 (And.intro (Nat.le_trans (Nat.le_of_ble_eq_true rfl) hfr) (And.intro (ok_Tape_step_1 hq8) ?_))))
        obtain ⟨⟨vq9, σq9⟩, hq9, h⟩ := px_bind h
        dsimp only at h
        refine Exists.intro fd (Exists.intro vq9 (Exists.intro σq9 (And.intro hfd (And.intro (hrc 1 _ _ _ _ hq9) ?_))))
        rcases px_ite h with ⟨c10, h⟩ | ⟨c10, h⟩
        · refine And.intro (fun hp => absurd c10 hp) (fun _ => ?_)
          refine And.intro (show (0 : Int) ≤ 0 ∧ (0 : Int) ≤ 1 from by decide) ?_
          exact Prod.mk.inj (Option.some.inj h)
        · refine And.intro (fun _ => ?_) (fun hn => absurd c10 hn)
          refine H [((2, 0, 0, 0, []), 1), ((1, 4, 0, 0, []), 2), ((0, 0, 0, 0, []), 1), ((23, 29, 2, 1, [(0, 57)]), 3), ((11, 0, 0, 0, []), 1), ((5, 3, 0, 1, []), 3), ((12, 0, 13, 0, []), 3), ((29, 4, 0, 0, []), 0)] 57 _ _ _ (by decide +kernel) ?_
          obtain ⟨⟨vq11, σq11⟩, hq11, h⟩ := px_bind h
          dsimp only at h
          refine Exists.intro 0 (Exists.intro vq11 (Exists.intro σq11 (And.intro (Nat.le_trans (Nat.le_of_ble_eq_true rfl) hfr) (And.intro (ok_Law_addStep_57 hq11) ?_))))
          exact ih _ _ _ h
theorem ok_Law_readSum_57_1_w {l : Launch} {rv : Int} {rσ : pS} {G : Nat → pL → List pV → pS → Prop} {fd fr : Nat} {rc : Nat → Int → pS → Option (Int × pS)} (hrc : ∀ w a σ v σ1, rc w a σ = some (v, σ1) → Con l fd (mi_rdS w) [.inr 57, .inr 1, .inl a] σ v σ1) (hfd : fd + 1 ≤ fr) (hfr : 1 ≤ fr) (H : px_R l fr 22 rv rσ G) : ∀ (a2 : Int) (σ : pS), f_Law_readSum_57_1 rc a2 σ = some (rv, rσ) → G 0 [some (.inr 57), some (.inr 1), some (.inl a2), none, none] [] σ := by
  intro a2 σ h
  unfold f_Law_readSum_57_1 at h
  refine H [((2, 0, 0, 0, []), 1), ((2, 1, 0, 0, []), 1), ((1, 2, 0, 0, []), 1), ((23, 23, 2, 1, [(0, 57)]), 3), ((14, 1, 11, 0, []), 3), ((0, 0, 0, 0, []), 1), ((27, 1, 0, 0, []), 1)] 0 _ _ _ (by decide +kernel) ?_
  obtain ⟨⟨vq1, σq1⟩, hq1, h⟩ := px_bind h
  dsimp only at h
  refine Exists.intro fd (Exists.intro vq1 (Exists.intro σq1 (And.intro hfd (And.intro (hrc 1 _ _ _ _ hq1) ?_))))
  rcases px_ite h with ⟨c2, h⟩ | ⟨c2, h⟩
  · refine And.intro (fun hp => absurd c2 hp) (fun _ => ?_)
    refine And.intro (show (0 : Int) ≤ 0 ∧ (0 : Int) ≤ 1 from by decide) ?_
    exact Prod.mk.inj (Option.some.inj h)
  · refine And.intro (fun _ => ?_) (fun hn => absurd c2 hn)
    refine H [((0, 0, 0, 0, []), 1), ((3, 3, 0, 0, []), 1)] 11 _ _ _ (by decide +kernel) ?_
    exact ok_Law_readSum_57_1_p13 hrc hfd hfr H _ _ _ _ h
theorem ok_Law_readSum_57_1 {l : Launch} {fd fr : Nat} {rc : Nat → Int → pS → Option (Int × pS)} (hrc : ∀ w a σ v σ1, rc w a σ = some (v, σ1) → Con l fd (mi_rdS w) [.inr 57, .inr 1, .inl a] σ v σ1) (hfd : fd + 1 ≤ fr) (hfr : 1 ≤ fr) {a2 : Int} {σ : pS} {v : Int} {σ1 : pS} (h : f_Law_readSum_57_1 rc a2 σ = some (v, σ1)) : Con l fr 22 [.inr 57, .inr 1, .inl a2] σ v σ1 := Con_mk 3 5 rfl (by decide +kernel) (fun _ H => ok_Law_readSum_57_1_w hrc hfd hfr H _ _ h)
theorem ok_Law_readProduct_57_1_p13 {l : Launch} {rv : Int} {rσ : pS} {G : Nat → pL → List pV → pS → Prop} {fd fr : Nat} {rc : Nat → Int → pS → Option (Int × pS)} (hrc : ∀ w a σ v σ1, rc w a σ = some (v, σ1) → Con l fd (mi_rdS w) [.inr 57, .inr 1, .inl a] σ v σ1) (hfd : fd + 1 ≤ fr) (hfr : 1 ≤ fr) (H : px_R l fr 23 rv rσ G) : ∀ (n : Nat) (a2 a3 : Int) (σ : pS), f_Law_readProduct_57_1_p13 rc n a2 a3 σ = some (rv, rσ) → G 13 [some (.inr 57), some (.inr 1), some (.inl a2), some (.inl a3), none] [] σ := by
  intro n
  induction n with
  | zero =>
    intro a2 a3 σ h
    unfold f_Law_readProduct_57_1_p13 at h
    cases h
  | succ n ih =>
    intro a2 a3 σ h
    unfold f_Law_readProduct_57_1_p13 at h
    refine H [((1, 3, 0, 0, []), 1), ((0, 0, 0, 240, []), 3), ((13, 3, 71, 0, []), 3), ((2, 1, 0, 0, []), 1), ((23, 19, 0, 1, [(0, 1)]), 3), ((0, 0, 0, 42, []), 2), ((0, 0, 0, 47, []), 2), ((0, 0, 0, 37, []), 2), ((24, 31, 4, 1, []), 3), ((14, 0, 71, 0, []), 3), ((2, 1, 0, 0, []), 1), ((23, 19, 0, 1, [(0, 1)]), 3), ((3, 4, 0, 0, []), 2), ((2, 1, 0, 0, []), 1), ((23, 21, 0, 0, [(0, 1)]), 3), ((2, 0, 0, 0, []), 1), ((2, 1, 0, 0, []), 1), ((1, 2, 0, 0, []), 1), ((23, 24, 2, 1, [(0, 57)]), 3), ((14, 1, 57, 0, []), 3), ((0, 0, 0, 0, []), 1), ((27, 1, 0, 0, []), 1)] 13 _ _ _ (by decide +kernel) ?_
    rcases px_ite h with ⟨c3, h⟩ | ⟨c3, h⟩
    · refine And.intro (fun _ => ?_) (fun hn => absurd c3 hn)
      refine H [((0, 0, 0, 1, []), 1), ((27, 1, 0, 0, []), 1)] 71 _ _ _ (by decide +kernel) ?_
      refine And.intro (show (0 : Int) ≤ 1 ∧ (1 : Int) ≤ 1 from by decide) ?_
      exact Prod.mk.inj (Option.some.inj h)
    · refine And.intro (fun hp => absurd hp c3) (fun _ => ?_)
      obtain ⟨⟨vq4, σq4⟩, hq4, h⟩ := px_bind h
      dsimp only at h
      refine Exists.intro 0 (Exists.intro vq4 (Exists.intro σq4 (And.intro (Nat.le_trans (Nat.le_of_ble_eq_true rfl) hfr) (And.intro (ok_Tape_sign_1 hq4) ?_))))
      obtain ⟨⟨vq5, σq5⟩, hq5, h⟩ := px_bind h
      dsimp only at h
      refine Exists.intro 0 (Exists.intro vq5 (Exists.intro σq5 (And.intro (Nat.le_trans (Nat.le_of_ble_eq_true rfl) hfr) (And.intro (ok_Law_isOneOf hq5) ?_))))
      rcases px_ite h with ⟨c6, h⟩ | ⟨c6, h⟩
      · refine And.intro (fun _ => ?_) (fun hn => absurd c6 hn)
        refine H [((0, 0, 0, 1, []), 1), ((27, 1, 0, 0, []), 1)] 71 _ _ _ (by decide +kernel) ?_
        refine And.intro (show (0 : Int) ≤ 1 ∧ (1 : Int) ≤ 1 from by decide) ?_
        exact Prod.mk.inj (Option.some.inj h)
      · refine And.intro (fun hp => absurd hp c6) (fun _ => ?_)
        obtain ⟨⟨vq7, σq7⟩, hq7, h⟩ := px_bind h
        dsimp only at h
        refine Exists.intro 0 (Exists.intro vq7 (Exists.intro σq7 (And.intro (Nat.le_trans (Nat.le_of_ble_eq_true rfl) hfr) (And.intro (ok_Tape_sign_1 hq7) ?_))))
        obtain ⟨⟨vq8, σq8⟩, hq8, h⟩ := px_bind h
        dsimp only at h
        refine Exists.intro 0 (Exists.intro vq8 (Exists.intro σq8 (And.intro (Nat.le_trans (Nat.le_of_ble_eq_true rfl) hfr) (And.intro (ok_Tape_step_1 hq8) ?_))))
        obtain ⟨⟨vq9, σq9⟩, hq9, h⟩ := px_bind h
        dsimp only at h
        refine Exists.intro fd (Exists.intro vq9 (Exists.intro σq9 (And.intro hfd (And.intro (hrc 2 _ _ _ _ hq9) ?_))))
        rcases px_ite h with ⟨c10, h⟩ | ⟨c10, h⟩
        · refine And.intro (fun hp => absurd c10 hp) (fun _ => ?_)
          refine And.intro (show (0 : Int) ≤ 0 ∧ (0 : Int) ≤ 1 from by decide) ?_
          exact Prod.mk.inj (Option.some.inj h)
        · refine And.intro (fun _ => ?_) (fun hn => absurd c10 hn)
          refine H [((2, 0, 0, 0, []), 1), ((1, 4, 0, 0, []), 2), ((0, 0, 0, 0, []), 1), ((23, 29, 2, 1, [(0, 57)]), 3), ((11, 0, 0, 0, []), 1), ((5, 3, 0, 1, []), 3), ((12, 0, 13, 0, []), 3), ((29, 4, 0, 0, []), 0)] 57 _ _ _ (by decide +kernel) ?_
          obtain ⟨⟨vq11, σq11⟩, hq11, h⟩ := px_bind h
          dsimp only at h
          refine Exists.intro 0 (Exists.intro vq11 (Exists.intro σq11 (And.intro (Nat.le_trans (Nat.le_of_ble_eq_true rfl) hfr) (And.intro (ok_Law_addStep_57 hq11) ?_))))
          exact ih _ _ _ h
theorem ok_Law_readProduct_57_1_w {l : Launch} {rv : Int} {rσ : pS} {G : Nat → pL → List pV → pS → Prop} {fd fr : Nat} {rc : Nat → Int → pS → Option (Int × pS)} (hrc : ∀ w a σ v σ1, rc w a σ = some (v, σ1) → Con l fd (mi_rdS w) [.inr 57, .inr 1, .inl a] σ v σ1) (hfd : fd + 1 ≤ fr) (hfr : 1 ≤ fr) (H : px_R l fr 23 rv rσ G) : ∀ (a2 : Int) (σ : pS), f_Law_readProduct_57_1 rc a2 σ = some (rv, rσ) → G 0 [some (.inr 57), some (.inr 1), some (.inl a2), none, none] [] σ := by
  intro a2 σ h
  unfold f_Law_readProduct_57_1 at h
  refine H [((2, 0, 0, 0, []), 1), ((2, 1, 0, 0, []), 1), ((1, 2, 0, 0, []), 1), ((23, 24, 2, 1, [(0, 57)]), 3), ((14, 1, 11, 0, []), 3), ((0, 0, 0, 0, []), 1), ((27, 1, 0, 0, []), 1)] 0 _ _ _ (by decide +kernel) ?_
  obtain ⟨⟨vq1, σq1⟩, hq1, h⟩ := px_bind h
  dsimp only at h
  refine Exists.intro fd (Exists.intro vq1 (Exists.intro σq1 (And.intro hfd (And.intro (hrc 2 _ _ _ _ hq1) ?_))))
  rcases px_ite h with ⟨c2, h⟩ | ⟨c2, h⟩
  · refine And.intro (fun hp => absurd c2 hp) (fun _ => ?_)
    refine And.intro (show (0 : Int) ≤ 0 ∧ (0 : Int) ≤ 1 from by decide) ?_
    exact Prod.mk.inj (Option.some.inj h)
  · refine And.intro (fun _ => ?_) (fun hn => absurd c2 hn)
    refine H [((0, 0, 0, 0, []), 1), ((3, 3, 0, 0, []), 1)] 11 _ _ _ (by decide +kernel) ?_
    exact ok_Law_readProduct_57_1_p13 hrc hfd hfr H _ _ _ _ h
theorem ok_Law_readProduct_57_1 {l : Launch} {fd fr : Nat} {rc : Nat → Int → pS → Option (Int × pS)} (hrc : ∀ w a σ v σ1, rc w a σ = some (v, σ1) → Con l fd (mi_rdS w) [.inr 57, .inr 1, .inl a] σ v σ1) (hfd : fd + 1 ≤ fr) (hfr : 1 ≤ fr) {a2 : Int} {σ : pS} {v : Int} {σ1 : pS} (h : f_Law_readProduct_57_1 rc a2 σ = some (v, σ1)) : Con l fr 23 [.inr 57, .inr 1, .inl a2] σ v σ1 := Con_mk 3 5 rfl (by decide +kernel) (fun _ H => ok_Law_readProduct_57_1_w hrc hfd hfr H _ _ h)
theorem ok_Law_opens_1_w {l : Launch} {rv : Int} {rσ : pS} {G : Nat → pL → List pV → pS → Prop} (H : px_R l 1 25 rv rσ G) : ∀ (a1 : Int) (σ : pS), f_Law_opens_1 a1 σ = some (rv, rσ) → G 0 [some (.inr 1), some (.inl a1)] [] σ := by
  intro a1 σ h
  unfold f_Law_opens_1 at h
  refine H [((1, 1, 0, 0, []), 1), ((0, 0, 0, 6, []), 2), ((13, 2, 12, 0, []), 3), ((2, 0, 0, 0, []), 1), ((0, 0, 0, 5, []), 1), ((23, 20, 1, 1, [(0, 1)]), 3), ((27, 1, 0, 0, []), 1)] 0 _ _ _ (by decide +kernel) ?_
  rcases px_ite h with ⟨c1, h⟩ | ⟨c1, h⟩
  · refine And.intro (fun _ => ?_) (fun hn => absurd c1 hn)
    refine H [((2, 0, 0, 0, []), 1), ((23, 21, 0, 0, [(0, 1)]), 3), ((0, 0, 0, 1, []), 1), ((27, 1, 0, 0, []), 1)] 12 _ _ _ (by decide +kernel) ?_
    obtain ⟨⟨vq2, σq2⟩, hq2, h⟩ := px_bind h
    dsimp only at h
    refine Exists.intro 0 (Exists.intro vq2 (Exists.intro σq2 (And.intro (Nat.le_of_ble_eq_true rfl) (And.intro (ok_Tape_step_1 hq2) ?_))))
    refine And.intro (show (0 : Int) ≤ 1 ∧ (1 : Int) ≤ 1 from by decide) ?_
    exact Prod.mk.inj (Option.some.inj h)
  · refine And.intro (fun hp => absurd hp c1) (fun _ => ?_)
    obtain ⟨⟨vq3, σq3⟩, hq3, h⟩ := px_bind h
    dsimp only at h
    refine Exists.intro 0 (Exists.intro vq3 (Exists.intro σq3 (And.intro (Nat.le_of_ble_eq_true rfl) (And.intro (ok_Tape_fail_1 hq3) ?_))))
    obtain ⟨g4, h⟩ := px_gd h
    refine And.intro g4 ?_
    exact Prod.mk.inj (Option.some.inj h)
theorem ok_Law_opens_1 {l : Launch} {a1 : Int} {σ : pS} {v : Int} {σ1 : pS} (h : f_Law_opens_1 a1 σ = some (v, σ1)) : Con l 1 25 [.inr 1, .inl a1] σ v σ1 := Con_mk 2 2 rfl (by decide +kernel) (fun _ H => ok_Law_opens_1_w H _ _ h)
theorem ok_Law_readFactor_57_1_p96 {l : Launch} {rv : Int} {rσ : pS} {G : Nat → pL → List pV → pS → Prop} {fd fr : Nat} {rc : Nat → Int → pS → Option (Int × pS)} (hrc : ∀ w a σ v σ1, rc w a σ = some (v, σ1) → Con l fd (mi_rdS w) [.inr 57, .inr 1, .inl a] σ v σ1) (hfd : fd + 1 ≤ fr) (hfr : 4 ≤ fr) (H : px_R l fr 24 rv rσ G) : ∀ (s0 : Int) (σ : pS), f_Law_readFactor_57_1_p96 rc s0 σ = some (rv, rσ) → G 96 [some (.inr 57), some (.inr 1), none, none, none] [.inl s0] σ := by
  intro s0 σ h
  unfold f_Law_readFactor_57_1_p96 at h
  refine H [((3, 4, 0, 0, []), 2), ((1, 4, 0, 0, []), 2), ((14, 3, 109, 0, []), 3), ((2, 1, 0, 0, []), 1), ((0, 0, 0, 1, []), 1), ((23, 20, 1, 1, [(0, 1)]), 3), ((27, 1, 0, 0, []), 1)] 96 _ _ _ (by decide +kernel) ?_
  rcases px_ite h with ⟨c7, h⟩ | ⟨c7, h⟩
  · refine And.intro (fun _ => ?_) (fun hn => absurd c7 hn)
    refine H [((2, 1, 0, 0, []), 1), ((23, 21, 0, 0, [(0, 1)]), 3), ((2, 0, 0, 0, []), 1), ((0, 0, 0, 97, []), 2), ((1, 4, 0, 0, []), 2), ((23, 29, 2, 1, [(0, 57)]), 3), ((11, 0, 0, 0, []), 1), ((0, 0, 0, 1, []), 1), ((27, 1, 0, 0, []), 1)] 109 _ _ _ (by decide +kernel) ?_
    obtain ⟨⟨vq8, σq8⟩, hq8, h⟩ := px_bind h
    dsimp only at h
    refine Exists.intro 0 (Exists.intro vq8 (Exists.intro σq8 (And.intro (Nat.le_trans (Nat.le_of_ble_eq_true rfl) hfr) (And.intro (ok_Tape_step_1 hq8) ?_))))
    obtain ⟨⟨vq9, σq9⟩, hq9, h⟩ := px_bind h
    dsimp only at h
    refine Exists.intro 0 (Exists.intro vq9 (Exists.intro σq9 (And.intro (Nat.le_trans (Nat.le_of_ble_eq_true rfl) hfr) (And.intro (ok_Law_addStep_57 hq9) ?_))))
    refine And.intro (show (0 : Int) ≤ 1 ∧ (1 : Int) ≤ 1 from by decide) ?_
    exact Prod.mk.inj (Option.some.inj h)
  · refine And.intro (fun hp => absurd hp c7) (fun _ => ?_)
    obtain ⟨⟨vq10, σq10⟩, hq10, h⟩ := px_bind h
    dsimp only at h
    refine Exists.intro 0 (Exists.intro vq10 (Exists.intro σq10 (And.intro (Nat.le_trans (Nat.le_of_ble_eq_true rfl) hfr) (And.intro (ok_Tape_fail_1 hq10) ?_))))
    obtain ⟨g11, h⟩ := px_gd h
    refine And.intro g11 ?_
    exact Prod.mk.inj (Option.some.inj h)
theorem ok_Law_readFactor_57_1_w {l : Launch} {rv : Int} {rσ : pS} {G : Nat → pL → List pV → pS → Prop} {fd fr : Nat} {rc : Nat → Int → pS → Option (Int × pS)} (hrc : ∀ w a σ v σ1, rc w a σ = some (v, σ1) → Con l fd (mi_rdS w) [.inr 57, .inr 1, .inl a] σ v σ1) (hfd : fd + 1 ≤ fr) (hfr : 4 ≤ fr) (H : px_R l fr 24 rv rσ G) : ∀ (a2 : Int) (σ : pS), f_Law_readFactor_57_1 rc a2 σ = some (rv, rσ) → G 0 [some (.inr 57), some (.inr 1), some (.inl a2), none, none] [] σ := by
  intro a2 σ h
  unfold f_Law_readFactor_57_1 at h
  refine H [((2, 1, 0, 0, []), 1), ((23, 19, 0, 1, [(0, 1)]), 3), ((3, 3, 0, 0, []), 1), ((1, 3, 0, 0, []), 1), ((0, 0, 0, 91, []), 2), ((13, 1, 45, 0, []), 3), ((2, 1, 0, 0, []), 1), ((1, 2, 0, 0, []), 1), ((24, 25, 2, 1, []), 3), ((14, 0, 43, 0, []), 3), ((2, 0, 0, 0, []), 1), ((2, 1, 0, 0, []), 1), ((1, 2, 0, 0, []), 1), ((0, 0, 0, 1, []), 1), ((6, 0, 0, 0, []), 1), ((23, 22, 2, 1, [(0, 57)]), 3), ((14, 0, 43, 0, []), 3), ((2, 1, 0, 0, []), 1), ((0, 0, 0, 93, []), 2), ((23, 26, 1, 1, [(0, 1)]), 3), ((14, 0, 43, 0, []), 3), ((0, 0, 0, 1, []), 1), ((12, 0, 44, 0, []), 3), ((27, 1, 0, 0, []), 1)] 0 _ _ _ (by decide +kernel) ?_
  obtain ⟨⟨vq1, σq1⟩, hq1, h⟩ := px_bind h
  dsimp only at h
  refine Exists.intro 0 (Exists.intro vq1 (Exists.intro σq1 (And.intro (Nat.le_trans (Nat.le_of_ble_eq_true rfl) hfr) (And.intro (ok_Tape_sign_1 hq1) ?_))))
  rcases px_ite h with ⟨c2, h⟩ | ⟨c2, h⟩
  · refine And.intro (fun hp => absurd c2 hp) (fun _ => ?_)
    obtain ⟨⟨vq15, σq15⟩, hq15, h⟩ := px_bind h
    dsimp only at h
    refine Exists.intro 1 (Exists.intro vq15 (Exists.intro σq15 (And.intro (Nat.le_trans (Nat.le_of_ble_eq_true rfl) hfr) (And.intro (ok_Law_opens_1 hq15) ?_))))
    rcases px_ite h with ⟨c16, h⟩ | ⟨c16, h⟩
    · refine And.intro (fun _ => ?_) (fun hn => absurd c16 hn)
      refine H [((0, 0, 0, 0, []), 1), ((27, 1, 0, 0, []), 1)] 43 _ _ _ (by decide +kernel) ?_
      refine And.intro (show (0 : Int) ≤ 0 ∧ (0 : Int) ≤ 1 from by decide) ?_
      exact Prod.mk.inj (Option.some.inj h)
    · refine And.intro (fun hp => absurd hp c16) (fun _ => ?_)
      obtain ⟨⟨vq17, σq17⟩, hq17, h⟩ := px_bind h
      dsimp only at h
      refine Exists.intro fd (Exists.intro vq17 (Exists.intro σq17 (And.intro hfd (And.intro (hrc 0 _ _ _ _ hq17) ?_))))
      rcases px_ite h with ⟨c18, h⟩ | ⟨c18, h⟩
      · refine And.intro (fun _ => ?_) (fun hn => absurd c18 hn)
        refine H [((0, 0, 0, 0, []), 1), ((27, 1, 0, 0, []), 1)] 43 _ _ _ (by decide +kernel) ?_
        refine And.intro (show (0 : Int) ≤ 0 ∧ (0 : Int) ≤ 1 from by decide) ?_
        exact Prod.mk.inj (Option.some.inj h)
      · refine And.intro (fun hp => absurd hp c18) (fun _ => ?_)
        obtain ⟨⟨vq19, σq19⟩, hq19, h⟩ := px_bind h
        dsimp only at h
        refine Exists.intro 1 (Exists.intro vq19 (Exists.intro σq19 (And.intro (Nat.le_trans (Nat.le_of_ble_eq_true rfl) hfr) (And.intro (ok_Tape_accept_1 hq19) ?_))))
        rcases px_ite h with ⟨c20, h⟩ | ⟨c20, h⟩
        · refine And.intro (fun _ => ?_) (fun hn => absurd c20 hn)
          refine H [((0, 0, 0, 0, []), 1), ((27, 1, 0, 0, []), 1)] 43 _ _ _ (by decide +kernel) ?_
          refine And.intro (show (0 : Int) ≤ 0 ∧ (0 : Int) ≤ 1 from by decide) ?_
          exact Prod.mk.inj (Option.some.inj h)
        · refine And.intro (fun hp => absurd hp c20) (fun _ => ?_)
          refine And.intro (show (0 : Int) ≤ 1 ∧ (1 : Int) ≤ 1 from by decide) ?_
          exact Prod.mk.inj (Option.some.inj h)
  · refine And.intro (fun _ => ?_) (fun hn => absurd c2 hn)
    refine H [((2, 1, 0, 0, []), 1), ((23, 27, 0, 1, [(0, 1)]), 3), ((14, 0, 80, 0, []), 3), ((2, 1, 0, 0, []), 1), ((0, 0, 0, 5, []), 1), ((23, 28, 1, 1, [(0, 1)]), 3), ((3, 4, 0, 0, []), 2), ((2, 0, 0, 0, []), 1), ((0, 0, 0, 48, []), 2), ((1, 4, 0, 0, []), 2), ((23, 29, 2, 1, [(0, 57)]), 3), ((11, 0, 0, 0, []), 1), ((1, 4, 0, 0, []), 2), ((0, 0, 0, (-1), []), 1), ((13, 0, 78, 0, []), 3), ((0, 0, 0, 1, []), 1), ((12, 0, 79, 0, []), 3), ((27, 1, 0, 0, []), 1)] 45 _ _ _ (by decide +kernel) ?_
    obtain ⟨⟨vq3, σq3⟩, hq3, h⟩ := px_bind h
    dsimp only at h
    refine Exists.intro 1 (Exists.intro vq3 (Exists.intro σq3 (And.intro (Nat.le_trans (Nat.le_of_ble_eq_true rfl) hfr) (And.intro (ok_Tape_digitNext_1 hq3) ?_))))
    rcases px_ite h with ⟨c4, h⟩ | ⟨c4, h⟩
    · refine And.intro (fun _ => ?_) (fun hn => absurd c4 hn)
      refine H [((1, 3, 0, 0, []), 1), ((0, 0, 0, (-1), []), 1), ((13, 1, 89, 0, []), 3), ((0, 0, 0, (-1), []), 1), ((12, 0, 96, 0, []), 3), ((29, 2, 0, 0, []), 0), ((29, 3, 0, 0, []), 0)] 80 _ _ _ (by decide +kernel) ?_
      rcases px_ite h with ⟨c5, h⟩ | ⟨c5, h⟩
      · refine And.intro (fun hp => absurd c5 hp) (fun _ => ?_)
        exact ok_Law_readFactor_57_1_p96 hrc hfd hfr H _ _ h
      · refine And.intro (fun _ => ?_) (fun hn => absurd c5 hn)
        refine H [((30, 3, 0, 0, []), 7), ((29, 2, 0, 0, []), 0), ((29, 3, 0, 0, []), 0)] 89 _ _ _ (by decide +kernel) ?_
        refine And.intro (Nat.le_trans (Nat.le_of_ble_eq_true rfl) hfr) ?_
        obtain ⟨g6, h⟩ := px_gd h
        refine And.intro g6 ?_
        exact ok_Law_readFactor_57_1_p96 hrc hfd hfr H _ _ h
    · refine And.intro (fun hp => absurd hp c4) (fun _ => ?_)
      obtain ⟨⟨vq12, σq12⟩, hq12, h⟩ := px_bind h
      dsimp only at h
      refine Exists.intro 2 (Exists.intro vq12 (Exists.intro σq12 (And.intro (Nat.le_trans (Nat.le_of_ble_eq_true rfl) hfr) (And.intro (ok_Tape_readDigits_1 hq12) ?_))))
      obtain ⟨⟨vq13, σq13⟩, hq13, h⟩ := px_bind h
      dsimp only at h
      refine Exists.intro 0 (Exists.intro vq13 (Exists.intro σq13 (And.intro (Nat.le_trans (Nat.le_of_ble_eq_true rfl) hfr) (And.intro (ok_Law_addStep_57 hq13) ?_))))
      rcases px_ite h with ⟨c14, h⟩ | ⟨c14, h⟩
      · refine And.intro (fun _ => ?_) (fun hn => absurd c14 hn)
        refine H [((0, 0, 0, 0, []), 1), ((27, 1, 0, 0, []), 1)] 78 _ _ _ (by decide +kernel) ?_
        refine And.intro (show (0 : Int) ≤ 0 ∧ (0 : Int) ≤ 1 from by decide) ?_
        exact Prod.mk.inj (Option.some.inj h)
      · refine And.intro (fun hp => absurd hp c14) (fun _ => ?_)
        refine And.intro (show (0 : Int) ≤ 1 ∧ (1 : Int) ≤ 1 from by decide) ?_
        exact Prod.mk.inj (Option.some.inj h)
theorem ok_Law_readFactor_57_1 {l : Launch} {fd fr : Nat} {rc : Nat → Int → pS → Option (Int × pS)} (hrc : ∀ w a σ v σ1, rc w a σ = some (v, σ1) → Con l fd (mi_rdS w) [.inr 57, .inr 1, .inl a] σ v σ1) (hfd : fd + 1 ≤ fr) (hfr : 4 ≤ fr) {a2 : Int} {σ : pS} {v : Int} {σ1 : pS} (h : f_Law_readFactor_57_1 rc a2 σ = some (v, σ1)) : Con l fr 24 [.inr 57, .inr 1, .inl a2] σ v σ1 := Con_mk 3 5 rfl (by decide +kernel) (fun _ H => ok_Law_readFactor_57_1_w hrc hfd hfr H _ _ h)
theorem ok_rdS {l : Launch} : ∀ (d w : Nat) (a : Int) (σ : pS) (v : Int) (σ1 : pS), rdS d w a σ = some (v, σ1) → Con l (4 + d) (mi_rdS w) [.inr 57, .inr 1, .inl a] σ v σ1
  | 0, w, a, σ, v, σ1, h => by cases h
  | d + 1, w, a, σ, v, σ1, h => by
    match w, h with
    | 0, h => exact ok_Law_readSum_57_1 (fun w a σ v σ1 h => ok_rdS d w a σ v σ1 h) (Nat.le_refl _) (by omega) h
    | 1, h => exact ok_Law_readProduct_57_1 (fun w a σ v σ1 h => ok_rdS d w a σ v σ1 h) (Nat.le_refl _) (by omega) h
    | _ + 2, h => exact ok_Law_readFactor_57_1 (fun w a σ v σ1 h => ok_rdS d w a σ v σ1 h) (Nat.le_refl _) (by omega) h
theorem ok_Law_readTest_57_1_p123 {l : Launch} {rv : Int} {rσ : pS} {G : Nat → pL → List pV → pS → Prop} {fd fr : Nat} {rc : Nat → Int → pS → Option (Int × pS)} (hrc : ∀ w a σ v σ1, rc w a σ = some (v, σ1) → Con l fd (mi_rdC w) [.inr 57, .inr 1, .inl a] σ v σ1) (hfd : fd + 1 ≤ fr) (hfr : 45 ≤ fr) (H : px_R l fr 34 rv rσ G) : ∀ (a2 a3 : Int) (σ : pS), f_Law_readTest_57_1_p123 rc a2 a3 σ = some (rv, rσ) → G 123 [some (.inr 57), some (.inr 1), some (.inl a2), some (.inl a3)] [] σ := by
  intro a2 a3 σ h
  unfold f_Law_readTest_57_1_p123 at h
  refine H [((2, 1, 0, 0, []), 1), ((23, 21, 0, 0, [(0, 1)]), 3), ((2, 0, 0, 0, []), 1), ((2, 1, 0, 0, []), 1), ((1, 2, 0, 0, []), 1), ((23, 22, 2, 1, [(0, 57)]), 3), ((14, 1, 138, 0, []), 3), ((0, 0, 0, 0, []), 1), ((27, 1, 0, 0, []), 1)] 123 _ _ _ (by decide +kernel) ?_
  obtain ⟨⟨vq9, σq9⟩, hq9, h⟩ := px_bind h
  dsimp only at h
  refine Exists.intro 0 (Exists.intro vq9 (Exists.intro σq9 (And.intro (Nat.le_trans (Nat.le_of_ble_eq_true rfl) hfr) (And.intro (ok_Tape_step_1 hq9) ?_))))
  obtain ⟨⟨vq10, σq10⟩, hq10, h⟩ := px_bind h
  dsimp only at h
  refine Exists.intro 44 (Exists.intro vq10 (Exists.intro σq10 (And.intro (Nat.le_trans (Nat.le_of_ble_eq_true rfl) hfr) (And.intro (ok_rdS 40 _ _ _ _ _ hq10) ?_))))
  rcases px_ite h with ⟨c11, h⟩ | ⟨c11, h⟩
  · refine And.intro (fun hp => absurd c11 hp) (fun _ => ?_)
    refine And.intro (show (0 : Int) ≤ 0 ∧ (0 : Int) ≤ 1 from by decide) ?_
    exact Prod.mk.inj (Option.some.inj h)
  · refine And.intro (fun _ => ?_) (fun hn => absurd c11 hn)
    refine H [((2, 0, 0, 0, []), 1), ((1, 3, 0, 0, []), 1), ((0, 0, 0, 0, []), 1), ((23, 29, 2, 1, [(0, 57)]), 3), ((11, 0, 0, 0, []), 1), ((0, 0, 0, 1, []), 1), ((27, 1, 0, 0, []), 1)] 138 _ _ _ (by decide +kernel) ?_
    obtain ⟨⟨vq12, σq12⟩, hq12, h⟩ := px_bind h
    dsimp only at h
    refine Exists.intro 0 (Exists.intro vq12 (Exists.intro σq12 (And.intro (Nat.le_trans (Nat.le_of_ble_eq_true rfl) hfr) (And.intro (ok_Law_addStep_57 hq12) ?_))))
    refine And.intro (show (0 : Int) ≤ 1 ∧ (1 : Int) ≤ 1 from by decide) ?_
    exact Prod.mk.inj (Option.some.inj h)
theorem ok_Law_readTest_57_1_w {l : Launch} {rv : Int} {rσ : pS} {G : Nat → pL → List pV → pS → Prop} {fd fr : Nat} {rc : Nat → Int → pS → Option (Int × pS)} (hrc : ∀ w a σ v σ1, rc w a σ = some (v, σ1) → Con l fd (mi_rdC w) [.inr 57, .inr 1, .inl a] σ v σ1) (hfd : fd + 1 ≤ fr) (hfr : 45 ≤ fr) (H : px_R l fr 34 rv rσ G) : ∀ (a2 : Int) (σ : pS), f_Law_readTest_57_1 rc a2 σ = some (rv, rσ) → G 0 [some (.inr 57), some (.inr 1), some (.inl a2), none] [] σ := by
  intro a2 σ h
  unfold f_Law_readTest_57_1 at h
  refine H [((2, 1, 0, 0, []), 1), ((23, 19, 0, 1, [(0, 1)]), 3), ((0, 0, 0, 33, []), 2), ((13, 1, 40, 0, []), 3), ((2, 1, 0, 0, []), 1), ((1, 2, 0, 0, []), 1), ((24, 25, 2, 1, []), 3), ((14, 0, 28, 0, []), 3), ((2, 0, 0, 0, []), 1), ((2, 1, 0, 0, []), 1), ((1, 2, 0, 0, []), 1), ((0, 0, 0, 1, []), 1), ((6, 0, 0, 0, []), 1), ((23, 34, 2, 1, [(0, 57)]), 3), ((14, 1, 30, 0, []), 3), ((0, 0, 0, 0, []), 1), ((27, 1, 0, 0, []), 1)] 0 _ _ _ (by decide +kernel) ?_
  obtain ⟨⟨vq1, σq1⟩, hq1, h⟩ := px_bind h
  dsimp only at h
  refine Exists.intro 0 (Exists.intro vq1 (Exists.intro σq1 (And.intro (Nat.le_trans (Nat.le_of_ble_eq_true rfl) hfr) (And.intro (ok_Tape_sign_1 hq1) ?_))))
  rcases px_ite h with ⟨c2, h⟩ | ⟨c2, h⟩
  · refine And.intro (fun hp => absurd c2 hp) (fun _ => ?_)
    obtain ⟨⟨vq23, σq23⟩, hq23, h⟩ := px_bind h
    dsimp only at h
    refine Exists.intro 1 (Exists.intro vq23 (Exists.intro σq23 (And.intro (Nat.le_trans (Nat.le_of_ble_eq_true rfl) hfr) (And.intro (ok_Law_opens_1 hq23) ?_))))
    rcases px_ite h with ⟨c24, h⟩ | ⟨c24, h⟩
    · refine And.intro (fun _ => ?_) (fun hn => absurd c24 hn)
      refine H [((0, 0, 0, 0, []), 1), ((27, 1, 0, 0, []), 1)] 28 _ _ _ (by decide +kernel) ?_
      refine And.intro (show (0 : Int) ≤ 0 ∧ (0 : Int) ≤ 1 from by decide) ?_
      exact Prod.mk.inj (Option.some.inj h)
    · refine And.intro (fun hp => absurd hp c24) (fun _ => ?_)
      obtain ⟨⟨vq25, σq25⟩, hq25, h⟩ := px_bind h
      dsimp only at h
      refine Exists.intro fd (Exists.intro vq25 (Exists.intro σq25 (And.intro hfd (And.intro (hrc 2 _ _ _ _ hq25) ?_))))
      rcases px_ite h with ⟨c26, h⟩ | ⟨c26, h⟩
      · refine And.intro (fun hp => absurd c26 hp) (fun _ => ?_)
        refine And.intro (show (0 : Int) ≤ 0 ∧ (0 : Int) ≤ 1 from by decide) ?_
        exact Prod.mk.inj (Option.some.inj h)
      · refine And.intro (fun _ => ?_) (fun hn => absurd c26 hn)
        refine H [((2, 0, 0, 0, []), 1), ((0, 0, 0, 33, []), 2), ((0, 0, 0, 0, []), 1), ((23, 29, 2, 1, [(0, 57)]), 3), ((11, 0, 0, 0, []), 1), ((0, 0, 0, 1, []), 1), ((27, 1, 0, 0, []), 1)] 30 _ _ _ (by decide +kernel) ?_
        obtain ⟨⟨vq27, σq27⟩, hq27, h⟩ := px_bind h
        dsimp only at h
        refine Exists.intro 0 (Exists.intro vq27 (Exists.intro σq27 (And.intro (Nat.le_trans (Nat.le_of_ble_eq_true rfl) hfr) (And.intro (ok_Law_addStep_57 hq27) ?_))))
        refine And.intro (show (0 : Int) ≤ 1 ∧ (1 : Int) ≤ 1 from by decide) ?_
        exact Prod.mk.inj (Option.some.inj h)
  · refine And.intro (fun _ => ?_) (fun hn => absurd c2 hn)
    refine H [((2, 1, 0, 0, []), 1), ((23, 19, 0, 1, [(0, 1)]), 3), ((0, 0, 0, 40, []), 2), ((13, 1, 83, 0, []), 3), ((2, 1, 0, 0, []), 1), ((1, 2, 0, 0, []), 1), ((24, 25, 2, 1, []), 3), ((14, 0, 81, 0, []), 3), ((2, 0, 0, 0, []), 1), ((2, 1, 0, 0, []), 1), ((1, 2, 0, 0, []), 1), ((0, 0, 0, 1, []), 1), ((6, 0, 0, 0, []), 1), ((23, 32, 2, 1, [(0, 57)]), 3), ((14, 0, 81, 0, []), 3), ((2, 1, 0, 0, []), 1), ((0, 0, 0, 41, []), 2), ((23, 26, 1, 1, [(0, 1)]), 3), ((14, 0, 81, 0, []), 3), ((0, 0, 0, 1, []), 1), ((12, 0, 82, 0, []), 3), ((27, 1, 0, 0, []), 1)] 40 _ _ _ (by decide +kernel) ?_
    obtain ⟨⟨vq3, σq3⟩, hq3, h⟩ := px_bind h
    dsimp only at h
    refine Exists.intro 0 (Exists.intro vq3 (Exists.intro σq3 (And.intro (Nat.le_trans (Nat.le_of_ble_eq_true rfl) hfr) (And.intro (ok_Tape_sign_1 hq3) ?_))))
    rcases px_ite h with ⟨c4, h⟩ | ⟨c4, h⟩
    · refine And.intro (fun hp => absurd c4 hp) (fun _ => ?_)
      obtain ⟨⟨vq17, σq17⟩, hq17, h⟩ := px_bind h
      dsimp only at h
      refine Exists.intro 1 (Exists.intro vq17 (Exists.intro σq17 (And.intro (Nat.le_trans (Nat.le_of_ble_eq_true rfl) hfr) (And.intro (ok_Law_opens_1 hq17) ?_))))
      rcases px_ite h with ⟨c18, h⟩ | ⟨c18, h⟩
      · refine And.intro (fun _ => ?_) (fun hn => absurd c18 hn)
        refine H [((0, 0, 0, 0, []), 1), ((27, 1, 0, 0, []), 1)] 81 _ _ _ (by decide +kernel) ?_
        refine And.intro (show (0 : Int) ≤ 0 ∧ (0 : Int) ≤ 1 from by decide) ?_
        exact Prod.mk.inj (Option.some.inj h)
      · refine And.intro (fun hp => absurd hp c18) (fun _ => ?_)
        obtain ⟨⟨vq19, σq19⟩, hq19, h⟩ := px_bind h
        dsimp only at h
        refine Exists.intro fd (Exists.intro vq19 (Exists.intro σq19 (And.intro hfd (And.intro (hrc 0 _ _ _ _ hq19) ?_))))
        rcases px_ite h with ⟨c20, h⟩ | ⟨c20, h⟩
        · refine And.intro (fun _ => ?_) (fun hn => absurd c20 hn)
          refine H [((0, 0, 0, 0, []), 1), ((27, 1, 0, 0, []), 1)] 81 _ _ _ (by decide +kernel) ?_
          refine And.intro (show (0 : Int) ≤ 0 ∧ (0 : Int) ≤ 1 from by decide) ?_
          exact Prod.mk.inj (Option.some.inj h)
        · refine And.intro (fun hp => absurd hp c20) (fun _ => ?_)
          obtain ⟨⟨vq21, σq21⟩, hq21, h⟩ := px_bind h
          dsimp only at h
          refine Exists.intro 1 (Exists.intro vq21 (Exists.intro σq21 (And.intro (Nat.le_trans (Nat.le_of_ble_eq_true rfl) hfr) (And.intro (ok_Tape_accept_1 hq21) ?_))))
          rcases px_ite h with ⟨c22, h⟩ | ⟨c22, h⟩
          · refine And.intro (fun _ => ?_) (fun hn => absurd c22 hn)
            refine H [((0, 0, 0, 0, []), 1), ((27, 1, 0, 0, []), 1)] 81 _ _ _ (by decide +kernel) ?_
            refine And.intro (show (0 : Int) ≤ 0 ∧ (0 : Int) ≤ 1 from by decide) ?_
            exact Prod.mk.inj (Option.some.inj h)
          · refine And.intro (fun hp => absurd hp c22) (fun _ => ?_)
            refine And.intro (show (0 : Int) ≤ 1 ∧ (1 : Int) ≤ 1 from by decide) ?_
            exact Prod.mk.inj (Option.some.inj h)
    · refine And.intro (fun _ => ?_) (fun hn => absurd c4 hn)
      refine H [((2, 0, 0, 0, []), 1), ((2, 1, 0, 0, []), 1), ((1, 2, 0, 0, []), 1), ((23, 22, 2, 1, [(0, 57)]), 3), ((14, 1, 94, 0, []), 3), ((0, 0, 0, 0, []), 1), ((27, 1, 0, 0, []), 1)] 83 _ _ _ (by decide +kernel) ?_
      obtain ⟨⟨vq5, σq5⟩, hq5, h⟩ := px_bind h
      dsimp only at h
      refine Exists.intro 44 (Exists.intro vq5 (Exists.intro σq5 (And.intro (Nat.le_trans (Nat.le_of_ble_eq_true rfl) hfr) (And.intro (ok_rdS 40 _ _ _ _ _ hq5) ?_))))
      rcases px_ite h with ⟨c6, h⟩ | ⟨c6, h⟩
      · refine And.intro (fun hp => absurd c6 hp) (fun _ => ?_)
        refine And.intro (show (0 : Int) ≤ 0 ∧ (0 : Int) ≤ 1 from by decide) ?_
        exact Prod.mk.inj (Option.some.inj h)
      · refine And.intro (fun _ => ?_) (fun hn => absurd c6 hn)
        refine H [((2, 1, 0, 0, []), 1), ((23, 19, 0, 1, [(0, 1)]), 3), ((3, 3, 0, 0, []), 1), ((1, 3, 0, 0, []), 1), ((0, 0, 0, 60, []), 2), ((13, 0, 123, 0, []), 3), ((1, 3, 0, 0, []), 1), ((0, 0, 0, 62, []), 2), ((13, 0, 123, 0, []), 3), ((1, 3, 0, 0, []), 1), ((0, 0, 0, 61, []), 2), ((13, 0, 123, 0, []), 3), ((2, 1, 0, 0, []), 1), ((0, 0, 0, 1, []), 1), ((23, 20, 1, 1, [(0, 1)]), 3), ((27, 1, 0, 0, []), 1)] 94 _ _ _ (by decide +kernel) ?_
        obtain ⟨⟨vq7, σq7⟩, hq7, h⟩ := px_bind h
        dsimp only at h
        refine Exists.intro 0 (Exists.intro vq7 (Exists.intro σq7 (And.intro (Nat.le_trans (Nat.le_of_ble_eq_true rfl) hfr) (And.intro (ok_Tape_sign_1 hq7) ?_))))
        rcases px_ite h with ⟨c8, h⟩ | ⟨c8, h⟩
        · refine And.intro (fun _ => ?_) (fun hn => absurd c8 hn)
          exact ok_Law_readTest_57_1_p123 hrc hfd hfr H _ _ _ h
        · refine And.intro (fun hp => absurd hp c8) (fun _ => ?_)
          rcases px_ite h with ⟨c13, h⟩ | ⟨c13, h⟩
          · refine And.intro (fun _ => ?_) (fun hn => absurd c13 hn)
            exact ok_Law_readTest_57_1_p123 hrc hfd hfr H _ _ _ h
          · refine And.intro (fun hp => absurd hp c13) (fun _ => ?_)
            rcases px_ite h with ⟨c14, h⟩ | ⟨c14, h⟩
            · refine And.intro (fun _ => ?_) (fun hn => absurd c14 hn)
              exact ok_Law_readTest_57_1_p123 hrc hfd hfr H _ _ _ h
            · refine And.intro (fun hp => absurd hp c14) (fun _ => ?_)
              obtain ⟨⟨vq15, σq15⟩, hq15, h⟩ := px_bind h
              dsimp only at h
              refine Exists.intro 0 (Exists.intro vq15 (Exists.intro σq15 (And.intro (Nat.le_trans (Nat.le_of_ble_eq_true rfl) hfr) (And.intro (ok_Tape_fail_1 hq15) ?_))))
              obtain ⟨g16, h⟩ := px_gd h
              refine And.intro g16 ?_
              exact Prod.mk.inj (Option.some.inj h)
theorem ok_Law_readTest_57_1 {l : Launch} {fd fr : Nat} {rc : Nat → Int → pS → Option (Int × pS)} (hrc : ∀ w a σ v σ1, rc w a σ = some (v, σ1) → Con l fd (mi_rdC w) [.inr 57, .inr 1, .inl a] σ v σ1) (hfd : fd + 1 ≤ fr) (hfr : 45 ≤ fr) {a2 : Int} {σ : pS} {v : Int} {σ1 : pS} (h : f_Law_readTest_57_1 rc a2 σ = some (v, σ1)) : Con l fr 34 [.inr 57, .inr 1, .inl a2] σ v σ1 := Con_mk 3 4 rfl (by decide +kernel) (fun _ H => ok_Law_readTest_57_1_w hrc hfd hfr H _ _ h)
theorem ok_rdC {l : Launch} : ∀ (d w : Nat) (a : Int) (σ : pS) (v : Int) (σ1 : pS), rdC d w a σ = some (v, σ1) → Con l (45 + d) (mi_rdC w) [.inr 57, .inr 1, .inl a] σ v σ1
  | 0, w, a, σ, v, σ1, h => by cases h
  | d + 1, w, a, σ, v, σ1, h => by
    match w, h with
    | 0, h => exact ok_Law_readEither_57_1 (fun w a σ v σ1 h => ok_rdC d w a σ v σ1 h) (Nat.le_refl _) (by omega) h
    | 1, h => exact ok_Law_readBoth_57_1 (fun w a σ v σ1 h => ok_rdC d w a σ v σ1 h) (Nat.le_refl _) (by omega) h
    | _ + 2, h => exact ok_Law_readTest_57_1 (fun w a σ v σ1 h => ok_rdC d w a σ v σ1 h) (Nat.le_refl _) (by omega) h
theorem ok_Law_readRule_57_1_p73 {l : Launch} {rv : Int} {rσ : pS} {G : Nat → pL → List pV → pS → Prop} (H : px_R l 86 18 rv rσ G) : ∀ (a2 : Int) (σ : pS), f_Law_readRule_57_1_p73 a2 σ = some (rv, rσ) → G 73 [some (.inr 57), some (.inr 1), some (.inl a2), none] [] σ := by
  intro a2 σ h
  unfold f_Law_readRule_57_1_p73 at h
  refine H [((2, 0, 0, 0, []), 1), ((17, 57, 60, 0, []), 3), ((1, 2, 0, 0, []), 1), ((2, 0, 0, 0, []), 1), ((16, 57, 8, 0, []), 3), ((20, 60, 16, 0, []), 1), ((2, 1, 0, 0, []), 1), ((0, 0, 0, 40, []), 2), ((23, 26, 1, 1, [(0, 1)]), 3), ((14, 0, 110, 0, []), 3), ((2, 0, 0, 0, []), 1), ((2, 1, 0, 0, []), 1), ((0, 0, 0, 1, []), 1), ((23, 32, 2, 1, [(0, 57)]), 3), ((14, 0, 110, 0, []), 3), ((2, 1, 0, 0, []), 1), ((0, 0, 0, 41, []), 2), ((23, 26, 1, 1, [(0, 1)]), 3), ((14, 1, 112, 0, []), 3), ((0, 0, 0, 0, []), 1), ((27, 1, 0, 0, []), 1)] 73 _ _ _ (by decide +kernel) ?_
  obtain ⟨g8, h⟩ := px_gd h
  refine And.intro g8 ?_
  obtain ⟨⟨vq9, σq9⟩, hq9, h⟩ := px_bind h
  dsimp only at h
  refine Exists.intro 1 (Exists.intro vq9 (Exists.intro σq9 (And.intro (Nat.le_of_ble_eq_true rfl) (And.intro (ok_Tape_accept_1 hq9) ?_))))
  rcases px_ite h with ⟨c10, h⟩ | ⟨c10, h⟩
  · refine And.intro (fun _ => ?_) (fun hn => absurd c10 hn)
    refine H [((0, 0, 0, 0, []), 1), ((27, 1, 0, 0, []), 1)] 110 _ _ _ (by decide +kernel) ?_
    refine And.intro (show (0 : Int) ≤ 0 ∧ (0 : Int) ≤ 1 from by decide) ?_
    exact Prod.mk.inj (Option.some.inj h)
  · refine And.intro (fun hp => absurd hp c10) (fun _ => ?_)
    obtain ⟨⟨vq11, σq11⟩, hq11, h⟩ := px_bind h
    dsimp only at h
    refine Exists.intro 85 (Exists.intro vq11 (Exists.intro σq11 (And.intro (Nat.le_of_ble_eq_true rfl) (And.intro (ok_rdC 40 _ _ _ _ _ hq11) ?_))))
    rcases px_ite h with ⟨c12, h⟩ | ⟨c12, h⟩
    · refine And.intro (fun _ => ?_) (fun hn => absurd c12 hn)
      refine H [((0, 0, 0, 0, []), 1), ((27, 1, 0, 0, []), 1)] 110 _ _ _ (by decide +kernel) ?_
      refine And.intro (show (0 : Int) ≤ 0 ∧ (0 : Int) ≤ 1 from by decide) ?_
      exact Prod.mk.inj (Option.some.inj h)
    · refine And.intro (fun hp => absurd hp c12) (fun _ => ?_)
      obtain ⟨⟨vq13, σq13⟩, hq13, h⟩ := px_bind h
      dsimp only at h
      refine Exists.intro 1 (Exists.intro vq13 (Exists.intro σq13 (And.intro (Nat.le_of_ble_eq_true rfl) (And.intro (ok_Tape_accept_1 hq13) ?_))))
      rcases px_ite h with ⟨c14, h⟩ | ⟨c14, h⟩
      · refine And.intro (fun hp => absurd c14 hp) (fun _ => ?_)
        refine And.intro (show (0 : Int) ≤ 0 ∧ (0 : Int) ≤ 1 from by decide) ?_
        exact Prod.mk.inj (Option.some.inj h)
      · refine And.intro (fun _ => ?_) (fun hn => absurd c14 hn)
        refine H [((2, 0, 0, 0, []), 1), ((17, 57, 59, 0, []), 3), ((1, 2, 0, 0, []), 1), ((0, 0, 0, 1, []), 1), ((6, 0, 0, 0, []), 1), ((2, 0, 0, 0, []), 1), ((16, 57, 8, 0, []), 3), ((20, 59, 17, 0, []), 1), ((0, 0, 0, 1, []), 1), ((27, 1, 0, 0, []), 1)] 112 _ _ _ (by decide +kernel) ?_
        obtain ⟨g15, h⟩ := px_gd h
        refine And.intro g15 ?_
        refine And.intro (show (0 : Int) ≤ 1 ∧ (1 : Int) ≤ 1 from by decide) ?_
        exact Prod.mk.inj (Option.some.inj h)
theorem ok_Law_readRule_57_1_p23 {l : Launch} {rv : Int} {rσ : pS} {G : Nat → pL → List pV → pS → Prop} (H : px_R l 86 18 rv rσ G) : ∀ (a2 a3 : Int) (σ : pS), f_Law_readRule_57_1_p23 a2 a3 σ = some (rv, rσ) → G 23 [some (.inr 57), some (.inr 1), some (.inl a2), some (.inl a3)] [] σ := by
  intro a2 a3 σ h
  unfold f_Law_readRule_57_1_p23 at h
  refine H [((1, 2, 0, 0, []), 1), ((0, 0, 0, 16, []), 2), ((13, 2, 35, 0, []), 3), ((2, 1, 0, 0, []), 1), ((0, 0, 0, 4, []), 1), ((23, 20, 1, 1, [(0, 1)]), 3), ((27, 1, 0, 0, []), 1)] 23 _ _ _ (by decide +kernel) ?_
  rcases px_ite h with ⟨c3, h⟩ | ⟨c3, h⟩
  · refine And.intro (fun _ => ?_) (fun hn => absurd c3 hn)
    refine H [((2, 1, 0, 0, []), 1), ((23, 21, 0, 0, [(0, 1)]), 3), ((2, 0, 0, 0, []), 1), ((17, 57, 58, 0, []), 3), ((1, 2, 0, 0, []), 1), ((1, 3, 0, 0, []), 1), ((20, 58, 16, 0, []), 1), ((2, 0, 0, 0, []), 1), ((17, 57, 59, 0, []), 3), ((1, 2, 0, 0, []), 1), ((2, 0, 0, 0, []), 1), ((16, 57, 8, 0, []), 3), ((20, 59, 17, 0, []), 1), ((1, 3, 0, 0, []), 1), ((0, 0, 0, 100, []), 2), ((13, 1, 73, 0, []), 3), ((2, 0, 0, 0, []), 1), ((2, 1, 0, 0, []), 1), ((0, 0, 0, 0, []), 1), ((23, 22, 2, 1, [(0, 57)]), 3), ((14, 1, 73, 0, []), 3), ((0, 0, 0, 0, []), 1), ((27, 1, 0, 0, []), 1)] 35 _ _ _ (by decide +kernel) ?_
    obtain ⟨⟨vq4, σq4⟩, hq4, h⟩ := px_bind h
    dsimp only at h
    refine Exists.intro 0 (Exists.intro vq4 (Exists.intro σq4 (And.intro (Nat.le_of_ble_eq_true rfl) (And.intro (ok_Tape_step_1 hq4) ?_))))
    obtain ⟨g5, h⟩ := px_gd h
    refine And.intro g5 ?_
    obtain ⟨g6, h⟩ := px_gd h
    refine And.intro g6 ?_
    rcases px_ite h with ⟨c7, h⟩ | ⟨c7, h⟩
    · refine And.intro (fun hp => absurd c7 hp) (fun _ => ?_)
      obtain ⟨⟨vq16, σq16⟩, hq16, h⟩ := px_bind h
      dsimp only at h
      refine Exists.intro 44 (Exists.intro vq16 (Exists.intro σq16 (And.intro (Nat.le_of_ble_eq_true rfl) (And.intro (ok_rdS 40 _ _ _ _ _ hq16) ?_))))
      rcases px_ite h with ⟨c17, h⟩ | ⟨c17, h⟩
      · refine And.intro (fun hp => absurd c17 hp) (fun _ => ?_)
        refine And.intro (show (0 : Int) ≤ 0 ∧ (0 : Int) ≤ 1 from by decide) ?_
        exact Prod.mk.inj (Option.some.inj h)
      · refine And.intro (fun _ => ?_) (fun hn => absurd c17 hn)
        refine H [((29, 3, 0, 0, []), 0)] 73 _ _ _ (by decide +kernel) ?_
        exact ok_Law_readRule_57_1_p73 H _ _ h
    · refine And.intro (fun _ => ?_) (fun hn => absurd c7 hn)
      refine H [((29, 3, 0, 0, []), 0)] 73 _ _ _ (by decide +kernel) ?_
      exact ok_Law_readRule_57_1_p73 H _ _ h
  · refine And.intro (fun hp => absurd hp c3) (fun _ => ?_)
    obtain ⟨⟨vq18, σq18⟩, hq18, h⟩ := px_bind h
    dsimp only at h
    refine Exists.intro 0 (Exists.intro vq18 (Exists.intro σq18 (And.intro (Nat.le_of_ble_eq_true rfl) (And.intro (ok_Tape_fail_1 hq18) ?_))))
    obtain ⟨g19, h⟩ := px_gd h
    refine And.intro g19 ?_
    exact Prod.mk.inj (Option.some.inj h)
theorem ok_Law_readRule_57_1_w {l : Launch} {rv : Int} {rσ : pS} {G : Nat → pL → List pV → pS → Prop} (H : px_R l 86 18 rv rσ G) : ∀ (a2 : Int) (σ : pS), f_Law_readRule_57_1 a2 σ = some (rv, rσ) → G 0 [some (.inr 57), some (.inr 1), some (.inl a2), none] [] σ := by
  intro a2 σ h
  unfold f_Law_readRule_57_1 at h
  refine H [((2, 1, 0, 0, []), 1), ((23, 19, 0, 1, [(0, 1)]), 3), ((3, 3, 0, 0, []), 1), ((1, 3, 0, 0, []), 1), ((0, 0, 0, 100, []), 2), ((13, 0, 23, 0, []), 3), ((1, 3, 0, 0, []), 1), ((0, 0, 0, 120, []), 2), ((13, 0, 23, 0, []), 3), ((2, 1, 0, 0, []), 1), ((0, 0, 0, 1, []), 1), ((23, 20, 1, 1, [(0, 1)]), 3), ((27, 1, 0, 0, []), 1)] 0 _ _ _ (by decide +kernel) ?_
  obtain ⟨⟨vq1, σq1⟩, hq1, h⟩ := px_bind h
  dsimp only at h
  refine Exists.intro 0 (Exists.intro vq1 (Exists.intro σq1 (And.intro (Nat.le_of_ble_eq_true rfl) (And.intro (ok_Tape_sign_1 hq1) ?_))))
  rcases px_ite h with ⟨c2, h⟩ | ⟨c2, h⟩
  · refine And.intro (fun _ => ?_) (fun hn => absurd c2 hn)
    exact ok_Law_readRule_57_1_p23 H _ _ _ h
  · refine And.intro (fun hp => absurd hp c2) (fun _ => ?_)
    rcases px_ite h with ⟨c20, h⟩ | ⟨c20, h⟩
    · refine And.intro (fun _ => ?_) (fun hn => absurd c20 hn)
      exact ok_Law_readRule_57_1_p23 H _ _ _ h
    · refine And.intro (fun hp => absurd hp c20) (fun _ => ?_)
      obtain ⟨⟨vq21, σq21⟩, hq21, h⟩ := px_bind h
      dsimp only at h
      refine Exists.intro 0 (Exists.intro vq21 (Exists.intro σq21 (And.intro (Nat.le_of_ble_eq_true rfl) (And.intro (ok_Tape_fail_1 hq21) ?_))))
      obtain ⟨g22, h⟩ := px_gd h
      refine And.intro g22 ?_
      exact Prod.mk.inj (Option.some.inj h)
theorem ok_Law_readRule_57_1 {l : Launch} {a2 : Int} {σ : pS} {v : Int} {σ1 : pS} (h : f_Law_readRule_57_1 a2 σ = some (v, σ1)) : Con l 86 18 [.inr 57, .inr 1, .inl a2] σ v σ1 := Con_mk 3 4 rfl (by decide +kernel) (fun _ H => ok_Law_readRule_57_1_w H _ _ h)
theorem ok_Law_readFrom_57_1_p7 {l : Launch} {rv : Int} {rσ : pS} {G : Nat → pL → List pV → pS → Prop} (H : px_R l 87 17 rv rσ G) : ∀ (n : Nat) (a2 : Int) (σ : pS), f_Law_readFrom_57_1_p7 n a2 σ = some (rv, rσ) → G 7 [some (.inr 57), some (.inr 1), some (.inl a2)] [] σ := by
  intro n
  induction n with
  | zero =>
    intro a2 σ h
    unfold f_Law_readFrom_57_1_p7 at h
    cases h
  | succ n ih =>
    intro a2 σ h
    unfold f_Law_readFrom_57_1_p7 at h
    refine H [((1, 2, 0, 0, []), 1), ((0, 0, 0, 16, []), 2), ((13, 4, 66, 0, []), 3), ((2, 0, 0, 0, []), 1), ((2, 1, 0, 0, []), 1), ((1, 2, 0, 0, []), 1), ((23, 18, 2, 1, [(0, 57)]), 3), ((14, 1, 27, 0, []), 3), ((2, 1, 0, 0, []), 1), ((23, 36, 0, 1, [(0, 1)]), 3), ((27, 0, 0, 0, []), 1)] 7 _ _ _ (by decide +kernel) ?_
    rcases px_ite h with ⟨c1, h⟩ | ⟨c1, h⟩
    · refine And.intro (fun _ => ?_) (fun hn => absurd c1 hn)
      refine H [((2, 1, 0, 0, []), 1), ((23, 36, 0, 1, [(0, 1)]), 3), ((27, 0, 0, 0, []), 1)] 66 _ _ _ (by decide +kernel) ?_
      obtain ⟨⟨vq2, σq2⟩, hq2, h⟩ := px_bind h
      dsimp only at h
      refine Exists.intro 0 (Exists.intro vq2 (Exists.intro σq2 (And.intro (Nat.le_of_ble_eq_true rfl) (And.intro (ok_Tape_fault_1 hq2) ?_))))
      exact Prod.mk.inj (Option.some.inj h)
    · refine And.intro (fun hp => absurd hp c1) (fun _ => ?_)
      obtain ⟨⟨vq3, σq3⟩, hq3, h⟩ := px_bind h
      dsimp only at h
      refine Exists.intro 86 (Exists.intro vq3 (Exists.intro σq3 (And.intro (Nat.le_of_ble_eq_true rfl) (And.intro (ok_Law_readRule_57_1 hq3) ?_))))
      rcases px_ite h with ⟨c4, h⟩ | ⟨c4, h⟩
      · refine And.intro (fun hp => absurd c4 hp) (fun _ => ?_)
        obtain ⟨⟨vq10, σq10⟩, hq10, h⟩ := px_bind h
        dsimp only at h
        refine Exists.intro 0 (Exists.intro vq10 (Exists.intro σq10 (And.intro (Nat.le_of_ble_eq_true rfl) (And.intro (ok_Tape_fault_1 hq10) ?_))))
        exact Prod.mk.inj (Option.some.inj h)
      · refine And.intro (fun _ => ?_) (fun hn => absurd c4 hn)
        refine H [((2, 1, 0, 0, []), 1), ((23, 37, 0, 1, [(0, 1)]), 3), ((14, 0, 46, 0, []), 3), ((2, 0, 0, 0, []), 1), ((1, 2, 0, 0, []), 1), ((0, 0, 0, 1, []), 1), ((6, 0, 0, 0, []), 1), ((18, 57, 7, 0, []), 3), ((2, 0, 0, 0, []), 1), ((16, 57, 7, 0, []), 3), ((27, 0, 0, 0, []), 1)] 27 _ _ _ (by decide +kernel) ?_
        obtain ⟨⟨vq5, σq5⟩, hq5, h⟩ := px_bind h
        dsimp only at h
        refine Exists.intro 0 (Exists.intro vq5 (Exists.intro σq5 (And.intro (Nat.le_of_ble_eq_true rfl) (And.intro (ok_Tape_ended_1 hq5) ?_))))
        rcases px_ite h with ⟨c6, h⟩ | ⟨c6, h⟩
        · refine And.intro (fun _ => ?_) (fun hn => absurd c6 hn)
          refine H [((2, 1, 0, 0, []), 1), ((0, 0, 0, 59, []), 2), ((23, 26, 1, 1, [(0, 1)]), 3), ((14, 1, 60, 0, []), 3), ((2, 1, 0, 0, []), 1), ((23, 36, 0, 1, [(0, 1)]), 3), ((27, 0, 0, 0, []), 1)] 46 _ _ _ (by decide +kernel) ?_
          obtain ⟨⟨vq7, σq7⟩, hq7, h⟩ := px_bind h
          dsimp only at h
          refine Exists.intro 1 (Exists.intro vq7 (Exists.intro σq7 (And.intro (Nat.le_of_ble_eq_true rfl) (And.intro (ok_Tape_accept_1 hq7) ?_))))
          rcases px_ite h with ⟨c8, h⟩ | ⟨c8, h⟩
          · refine And.intro (fun hp => absurd c8 hp) (fun _ => ?_)
            obtain ⟨⟨vq9, σq9⟩, hq9, h⟩ := px_bind h
            dsimp only at h
            refine Exists.intro 0 (Exists.intro vq9 (Exists.intro σq9 (And.intro (Nat.le_of_ble_eq_true rfl) (And.intro (ok_Tape_fault_1 hq9) ?_))))
            exact Prod.mk.inj (Option.some.inj h)
          · refine And.intro (fun _ => ?_) (fun hn => absurd c8 hn)
            refine H [((5, 2, 0, 1, []), 3), ((12, 0, 7, 0, []), 3)] 60 _ _ _ (by decide +kernel) ?_
            exact ih _ _ h
        · refine And.intro (fun hp => absurd hp c6) (fun _ => ?_)
          exact Prod.mk.inj (Option.some.inj h)
theorem ok_Law_readFrom_57_1_w {l : Launch} {rv : Int} {rσ : pS} {G : Nat → pL → List pV → pS → Prop} (H : px_R l 87 17 rv rσ G) : ∀ (σ : pS), f_Law_readFrom_57_1  σ = some (rv, rσ) → G 0 [some (.inr 57), some (.inr 1), none] [] σ := by
  intro  σ h
  unfold f_Law_readFrom_57_1 at h
  refine H [((2, 0, 0, 0, []), 1), ((0, 0, 0, 0, []), 1), ((18, 57, 8, 0, []), 3), ((0, 0, 0, 0, []), 1), ((3, 2, 0, 0, []), 1)] 0 _ _ _ (by decide +kernel) ?_
  exact ok_Law_readFrom_57_1_p7 H _ _ _ h
theorem ok_Law_readFrom_57_1 {l : Launch} {σ : pS} {v : Int} {σ1 : pS} (h : f_Law_readFrom_57_1  σ = some (v, σ1)) : Con l 87 17 [.inr 57, .inr 1] σ v σ1 := Con_mk 2 3 rfl (by decide +kernel) (fun _ H => ok_Law_readFrom_57_1_w H  _ h)
theorem ok_Law_copyFrom_16_57_w {l : Launch} {rv : Int} {rσ : pS} {G : Nat → pL → List pV → pS → Prop} (H : px_R l 1 38 rv rσ G) : ∀ (σ : pS), f_Law_copyFrom_16_57  σ = some (rv, rσ) → G 0 [some (.inr 16), some (.inr 57)] [] σ := by
  intro  σ h
  unfold f_Law_copyFrom_16_57 at h
  refine H [((2, 1, 0, 0, []), 1), ((17, 57, 58, 0, []), 3), ((0, 0, 0, 0, []), 1), ((2, 0, 0, 0, []), 1), ((17, 16, 17, 0, []), 3), ((0, 0, 0, 0, []), 1), ((0, 0, 0, 16, []), 2), ((26, 58, 17, 16, []), 3), ((2, 1, 0, 0, []), 1), ((17, 57, 59, 0, []), 3), ((0, 0, 0, 0, []), 1), ((2, 0, 0, 0, []), 1), ((17, 16, 18, 0, []), 3), ((0, 0, 0, 0, []), 1), ((0, 0, 0, 17, []), 2), ((26, 59, 18, 17, []), 3), ((2, 1, 0, 0, []), 1), ((17, 57, 60, 0, []), 3), ((0, 0, 0, 0, []), 1), ((2, 0, 0, 0, []), 1), ((17, 16, 19, 0, []), 3), ((0, 0, 0, 0, []), 1), ((0, 0, 0, 16, []), 2), ((26, 60, 19, 16, []), 3), ((2, 1, 0, 0, []), 1), ((17, 57, 61, 0, []), 3), ((0, 0, 0, 0, []), 1), ((2, 0, 0, 0, []), 1), ((17, 16, 20, 0, []), 3), ((0, 0, 0, 0, []), 1), ((0, 0, 0, 240, []), 3), ((26, 61, 20, 240, []), 3), ((2, 1, 0, 0, []), 1), ((17, 57, 62, 0, []), 3), ((0, 0, 0, 0, []), 1), ((2, 0, 0, 0, []), 1), ((17, 16, 21, 0, []), 3), ((0, 0, 0, 0, []), 1), ((0, 0, 0, 240, []), 3), ((26, 62, 21, 240, []), 3), ((2, 0, 0, 0, []), 1), ((2, 1, 0, 0, []), 1), ((16, 57, 7, 0, []), 3), ((18, 16, 7, 0, []), 3), ((28, 0, 0, 0, []), 1)] 0 _ _ _ (by decide +kernel) ?_
  exact (Prod.mk.inj (Option.some.inj h)).2
theorem ok_Law_copyFrom_16_57 {l : Launch} {σ : pS} {v : Int} {σ1 : pS} (h : f_Law_copyFrom_16_57  σ = some (v, σ1)) : Con l 1 38 [.inr 16, .inr 57] σ v σ1 := Con_mk 2 2 rfl (by decide +kernel) (fun _ H => ok_Law_copyFrom_16_57_w H  _ h)
theorem ok_X_law_0_p63 {l : Launch} {rv : Int} {rσ : pS} {G : Nat → pL → List pV → pS → Prop} (H : px_R l 88 14 rv rσ G) : ∀ (a2 : Int) (σ : pS), f_X_law_0_p63 a2 σ = some (rv, rσ) → G 63 [some (.inr 0), none, some (.inl a2)] [] σ := by
  intro a2 σ h
  unfold f_X_law_0_p63 at h
  refine H [((2, 0, 0, 0, []), 1), ((17, 0, 1, 0, []), 3), ((23, 39, 0, 0, [(0, 1)]), 3), ((1, 2, 0, 0, []), 1), ((27, 0, 0, 0, []), 1)] 63 _ _ _ (by decide +kernel) ?_
  obtain ⟨⟨vq7, σq7⟩, hq7, h⟩ := px_bind h
  dsimp only at h
  refine Exists.intro 0 (Exists.intro vq7 (Exists.intro σq7 (And.intro (Nat.le_of_ble_eq_true rfl) (And.intro (ok_Tape_clear_1 hq7) ?_))))
  exact Prod.mk.inj (Option.some.inj h)
theorem ok_X_law_0_w {l : Launch} {rv : Int} {rσ : pS} {G : Nat → pL → List pV → pS → Prop} (H : px_R l 88 14 rv rσ G) : ∀ (a1 : Int) (σ : pS), f_X_law_0 a1 σ = some (rv, rσ) → G 0 [some (.inr 0), some (.inl a1), none] [] σ := by
  intro a1 σ h
  unfold f_X_law_0 at h
  refine H [((1, 1, 0, 0, []), 1), ((0, 0, 0, 1, []), 1), ((13, 2, 23, 0, []), 3), ((1, 1, 0, 0, []), 1), ((0, 0, 0, 240, []), 3), ((13, 4, 23, 0, []), 3), ((1, 1, 0, 0, []), 1), ((2, 0, 0, 0, []), 1), ((17, 0, 1, 0, []), 3), ((16, 1, 1, 0, []), 3), ((13, 5, 25, 0, []), 3), ((0, 0, 0, (-1), []), 1), ((27, 0, 0, 0, []), 1)] 0 _ _ _ (by decide +kernel) ?_
  rcases px_ite h with ⟨c1, h⟩ | ⟨c1, h⟩
  · refine And.intro (fun _ => ?_) (fun hn => absurd c1 hn)
    refine H [((0, 0, 0, (-1), []), 1), ((27, 0, 0, 0, []), 1)] 23 _ _ _ (by decide +kernel) ?_
    exact Prod.mk.inj (Option.some.inj h)
  · refine And.intro (fun hp => absurd hp c1) (fun _ => ?_)
    rcases px_ite h with ⟨c2, h⟩ | ⟨c2, h⟩
    · refine And.intro (fun _ => ?_) (fun hn => absurd c2 hn)
      refine H [((0, 0, 0, (-1), []), 1), ((27, 0, 0, 0, []), 1)] 23 _ _ _ (by decide +kernel) ?_
      exact Prod.mk.inj (Option.some.inj h)
    · refine And.intro (fun hp => absurd hp c2) (fun _ => ?_)
      rcases px_ite h with ⟨c3, h⟩ | ⟨c3, h⟩
      · refine And.intro (fun _ => ?_) (fun hn => absurd c3 hn)
        refine H [((2, 0, 0, 0, []), 1), ((17, 0, 1, 0, []), 3), ((1, 1, 0, 0, []), 1), ((23, 15, 1, 0, [(0, 1)]), 3), ((2, 0, 0, 0, []), 1), ((17, 0, 57, 0, []), 3), ((2, 0, 0, 0, []), 1), ((17, 0, 1, 0, []), 3), ((23, 17, 1, 1, [(0, 57)]), 3), ((3, 2, 0, 0, []), 1), ((1, 2, 0, 0, []), 1), ((14, 2, 63, 0, []), 3), ((2, 0, 0, 0, []), 1), ((17, 0, 3, 0, []), 3), ((17, 3, 16, 0, []), 3), ((2, 0, 0, 0, []), 1), ((17, 0, 57, 0, []), 3), ((23, 38, 1, 0, [(0, 16)]), 3), ((29, 1, 0, 0, []), 0)] 25 _ _ _ (by decide +kernel) ?_
        obtain ⟨⟨vq4, σq4⟩, hq4, h⟩ := px_bind h
        dsimp only at h
        refine Exists.intro 1 (Exists.intro vq4 (Exists.intro σq4 (And.intro (Nat.le_of_ble_eq_true rfl) (And.intro (ok_Tape_beginText_1 hq4) ?_))))
        obtain ⟨⟨vq5, σq5⟩, hq5, h⟩ := px_bind h
        dsimp only at h
        refine Exists.intro 87 (Exists.intro vq5 (Exists.intro σq5 (And.intro (Nat.le_of_ble_eq_true rfl) (And.intro (ok_Law_readFrom_57_1 hq5) ?_))))
        rcases px_ite h with ⟨c6, h⟩ | ⟨c6, h⟩
        · refine And.intro (fun _ => ?_) (fun hn => absurd c6 hn)
          refine H [((29, 1, 0, 0, []), 0)] 63 _ _ _ (by decide +kernel) ?_
          exact ok_X_law_0_p63 H _ _ h
        · refine And.intro (fun hp => absurd hp c6) (fun _ => ?_)
          obtain ⟨⟨vq8, σq8⟩, hq8, h⟩ := px_bind h
          dsimp only at h
          refine Exists.intro 1 (Exists.intro vq8 (Exists.intro σq8 (And.intro (Nat.le_of_ble_eq_true rfl) (And.intro (ok_Law_copyFrom_16_57 hq8) ?_))))
          exact ok_X_law_0_p63 H _ _ h
      · refine And.intro (fun hp => absurd hp c3) (fun _ => ?_)
        exact Prod.mk.inj (Option.some.inj h)
theorem ok_X_law_0 {l : Launch} {a1 : Int} {σ : pS} {v : Int} {σ1 : pS} (h : f_X_law_0 a1 σ = some (v, σ1)) : Con l 88 14 [.inr 0, .inl a1] σ v σ1 := Con_mk 2 3 rfl (by decide +kernel) (fun _ H => ok_X_law_0_w H _ _ h)
theorem ok_M_opens_84_w {l : Launch} {rv : Int} {rσ : pS} {G : Nat → pL → List pV → pS → Prop} (H : px_R l 1 148 rv rσ G) : ∀ (a1 : Int) (σ : pS), f_M_opens_84 a1 σ = some (rv, rσ) → G 0 [some (.inr 84), some (.inl a1)] [] σ := by
  intro a1 σ h
  unfold f_M_opens_84 at h
  refine H [((2, 0, 0, 0, []), 1), ((16, 84, 23, 0, []), 3), ((0, 0, 0, 6, []), 2), ((13, 1, 19, 0, []), 3), ((2, 0, 0, 0, []), 1), ((0, 0, 0, 5, []), 1), ((2, 0, 0, 0, []), 1), ((16, 84, 19, 0, []), 3), ((23, 145, 2, 1, [(0, 84)]), 3), ((27, 1, 0, 0, []), 1)] 0 _ _ _ (by decide +kernel) ?_
  rcases px_ite h with ⟨c1, h⟩ | ⟨c1, h⟩
  · refine And.intro (fun hp => absurd c1 hp) (fun _ => ?_)
    obtain ⟨⟨vq3, σq3⟩, hq3, h⟩ := px_bind h
    dsimp only at h
    refine Exists.intro 0 (Exists.intro vq3 (Exists.intro σq3 (And.intro (Nat.le_of_ble_eq_true rfl) (And.intro (ok_M_wrongAt_84 hq3) ?_))))
    obtain ⟨g4, h⟩ := px_gd h
    refine And.intro g4 ?_
    exact Prod.mk.inj (Option.some.inj h)
  · refine And.intro (fun _ => ?_) (fun hn => absurd c1 hn)
    refine H [((2, 0, 0, 0, []), 1), ((2, 0, 0, 0, []), 1), ((16, 84, 23, 0, []), 3), ((0, 0, 0, 1, []), 1), ((6, 0, 0, 0, []), 1), ((18, 84, 23, 0, []), 3), ((2, 0, 0, 0, []), 1), ((17, 84, 98, 0, []), 3), ((2, 0, 0, 0, []), 1), ((16, 84, 25, 0, []), 3), ((0, 0, 0, 1048576, []), 2), ((1, 1, 0, 0, []), 1), ((6, 2, 0, 0, []), 1), ((20, 98, 260, 0, []), 1), ((2, 0, 0, 0, []), 1), ((2, 0, 0, 0, []), 1), ((16, 84, 25, 0, []), 3), ((0, 0, 0, 1, []), 1), ((6, 0, 0, 0, []), 1), ((18, 84, 25, 0, []), 3), ((2, 0, 0, 0, []), 1), ((2, 0, 0, 0, []), 1), ((16, 84, 19, 0, []), 3), ((0, 0, 0, 1, []), 1), ((6, 0, 0, 0, []), 1), ((18, 84, 19, 0, []), 3), ((0, 0, 0, 1, []), 1), ((27, 1, 0, 0, []), 1)] 19 _ _ _ (by decide +kernel) ?_
    obtain ⟨g2, h⟩ := px_gd h
    refine And.intro g2 ?_
    refine And.intro (show (0 : Int) ≤ 1 ∧ (1 : Int) ≤ 1 from by decide) ?_
    exact Prod.mk.inj (Option.some.inj h)
theorem ok_M_opens_84 {l : Launch} {a1 : Int} {σ : pS} {v : Int} {σ1 : pS} (h : f_M_opens_84 a1 σ = some (v, σ1)) : Con l 1 148 [.inr 84, .inl a1] σ v σ1 := Con_mk 2 2 rfl (by decide +kernel) (fun _ H => ok_M_opens_84_w H _ _ h)
theorem ok_M_factOf_w {l : Launch} {rv : Int} {rσ : pS} {G : Nat → pL → List pV → pS → Prop} (H : px_R l 0 152 rv rσ G) : ∀ (a0 : Int) (σ : pS), f_M_factOf a0 σ = some (rv, rσ) → G 0 [some (.inl a0)] [] σ := by
  intro a0 σ h
  unfold f_M_factOf at h
  refine H [((1, 0, 0, 0, []), 1), ((15, 0, 115, 0, [(99, 104), (100, 115), (101, 115), (102, 115), (103, 115), (104, 115), (105, 100), (106, 115), (107, 102), (108, 115), (109, 115), (110, 108), (111, 115), (112, 115), (113, 115), (114, 110), (115, 106), (116, 115), (117, 115), (118, 115), (119, 112)]), 99)] 0 _ _ _ (by decide +kernel) ?_
  rcases px_ite h with ⟨c1, h⟩ | ⟨c1, h⟩
  · refine And.intro (fun _ => ?_) (fun hn => absurd c1 hn)
    refine H [((0, 0, 0, 2, []), 1), ((27, 0, 0, 0, []), 1)] 104 _ _ _ (by decide +kernel) ?_
    exact Prod.mk.inj (Option.some.inj h)
  · refine And.intro (fun hp => absurd hp c1) (fun _ => ?_)
    rcases px_ite h with ⟨c2, h⟩ | ⟨c2, h⟩
    · refine And.intro (fun _ => ?_) (fun hn => absurd c2 hn)
      refine H [((0, 0, 0, (-1), []), 1), ((27, 0, 0, 0, []), 1)] 115 _ _ _ (by decide +kernel) ?_
      exact Prod.mk.inj (Option.some.inj h)
    · refine And.intro (fun hp => absurd hp c2) (fun _ => ?_)
      rcases px_ite h with ⟨c3, h⟩ | ⟨c3, h⟩
      · refine And.intro (fun _ => ?_) (fun hn => absurd c3 hn)
        refine H [((0, 0, 0, (-1), []), 1), ((27, 0, 0, 0, []), 1)] 115 _ _ _ (by decide +kernel) ?_
        exact Prod.mk.inj (Option.some.inj h)
      · refine And.intro (fun hp => absurd hp c3) (fun _ => ?_)
        rcases px_ite h with ⟨c4, h⟩ | ⟨c4, h⟩
        · refine And.intro (fun _ => ?_) (fun hn => absurd c4 hn)
          refine H [((0, 0, 0, (-1), []), 1), ((27, 0, 0, 0, []), 1)] 115 _ _ _ (by decide +kernel) ?_
          exact Prod.mk.inj (Option.some.inj h)
        · refine And.intro (fun hp => absurd hp c4) (fun _ => ?_)
          rcases px_ite h with ⟨c5, h⟩ | ⟨c5, h⟩
          · refine And.intro (fun _ => ?_) (fun hn => absurd c5 hn)
            refine H [((0, 0, 0, (-1), []), 1), ((27, 0, 0, 0, []), 1)] 115 _ _ _ (by decide +kernel) ?_
            exact Prod.mk.inj (Option.some.inj h)
          · refine And.intro (fun hp => absurd hp c5) (fun _ => ?_)
            rcases px_ite h with ⟨c6, h⟩ | ⟨c6, h⟩
            · refine And.intro (fun _ => ?_) (fun hn => absurd c6 hn)
              refine H [((0, 0, 0, (-1), []), 1), ((27, 0, 0, 0, []), 1)] 115 _ _ _ (by decide +kernel) ?_
              exact Prod.mk.inj (Option.some.inj h)
            · refine And.intro (fun hp => absurd hp c6) (fun _ => ?_)
              rcases px_ite h with ⟨c7, h⟩ | ⟨c7, h⟩
              · refine And.intro (fun _ => ?_) (fun hn => absurd c7 hn)
                refine H [((0, 0, 0, 0, []), 1), ((27, 0, 0, 0, []), 1)] 100 _ _ _ (by decide +kernel) ?_
                exact Prod.mk.inj (Option.some.inj h)
              · refine And.intro (fun hp => absurd hp c7) (fun _ => ?_)
                rcases px_ite h with ⟨c8, h⟩ | ⟨c8, h⟩
                · refine And.intro (fun _ => ?_) (fun hn => absurd c8 hn)
                  refine H [((0, 0, 0, (-1), []), 1), ((27, 0, 0, 0, []), 1)] 115 _ _ _ (by decide +kernel) ?_
                  exact Prod.mk.inj (Option.some.inj h)
                · refine And.intro (fun hp => absurd hp c8) (fun _ => ?_)
                  rcases px_ite h with ⟨c9, h⟩ | ⟨c9, h⟩
                  · refine And.intro (fun _ => ?_) (fun hn => absurd c9 hn)
                    refine H [((0, 0, 0, 1, []), 1), ((27, 0, 0, 0, []), 1)] 102 _ _ _ (by decide +kernel) ?_
                    exact Prod.mk.inj (Option.some.inj h)
                  · refine And.intro (fun hp => absurd hp c9) (fun _ => ?_)
                    rcases px_ite h with ⟨c10, h⟩ | ⟨c10, h⟩
                    · refine And.intro (fun _ => ?_) (fun hn => absurd c10 hn)
                      refine H [((0, 0, 0, (-1), []), 1), ((27, 0, 0, 0, []), 1)] 115 _ _ _ (by decide +kernel) ?_
                      exact Prod.mk.inj (Option.some.inj h)
                    · refine And.intro (fun hp => absurd hp c10) (fun _ => ?_)
                      rcases px_ite h with ⟨c11, h⟩ | ⟨c11, h⟩
                      · refine And.intro (fun _ => ?_) (fun hn => absurd c11 hn)
                        refine H [((0, 0, 0, (-1), []), 1), ((27, 0, 0, 0, []), 1)] 115 _ _ _ (by decide +kernel) ?_
                        exact Prod.mk.inj (Option.some.inj h)
                      · refine And.intro (fun hp => absurd hp c11) (fun _ => ?_)
                        rcases px_ite h with ⟨c12, h⟩ | ⟨c12, h⟩
                        · refine And.intro (fun _ => ?_) (fun hn => absurd c12 hn)
                          refine H [((0, 0, 0, 4, []), 1), ((27, 0, 0, 0, []), 1)] 108 _ _ _ (by decide +kernel) ?_
                          exact Prod.mk.inj (Option.some.inj h)
                        · refine And.intro (fun hp => absurd hp c12) (fun _ => ?_)
                          rcases px_ite h with ⟨c13, h⟩ | ⟨c13, h⟩
                          · refine And.intro (fun _ => ?_) (fun hn => absurd c13 hn)
                            refine H [((0, 0, 0, (-1), []), 1), ((27, 0, 0, 0, []), 1)] 115 _ _ _ (by decide +kernel) ?_
                            exact Prod.mk.inj (Option.some.inj h)
                          · refine And.intro (fun hp => absurd hp c13) (fun _ => ?_)
                            rcases px_ite h with ⟨c14, h⟩ | ⟨c14, h⟩
                            · refine And.intro (fun _ => ?_) (fun hn => absurd c14 hn)
                              refine H [((0, 0, 0, (-1), []), 1), ((27, 0, 0, 0, []), 1)] 115 _ _ _ (by decide +kernel) ?_
                              exact Prod.mk.inj (Option.some.inj h)
                            · refine And.intro (fun hp => absurd hp c14) (fun _ => ?_)
                              rcases px_ite h with ⟨c15, h⟩ | ⟨c15, h⟩
                              · refine And.intro (fun _ => ?_) (fun hn => absurd c15 hn)
                                refine H [((0, 0, 0, (-1), []), 1), ((27, 0, 0, 0, []), 1)] 115 _ _ _ (by decide +kernel) ?_
                                exact Prod.mk.inj (Option.some.inj h)
                              · refine And.intro (fun hp => absurd hp c15) (fun _ => ?_)
                                rcases px_ite h with ⟨c16, h⟩ | ⟨c16, h⟩
                                · refine And.intro (fun _ => ?_) (fun hn => absurd c16 hn)
                                  refine H [((0, 0, 0, 5, []), 1), ((27, 0, 0, 0, []), 1)] 110 _ _ _ (by decide +kernel) ?_
                                  exact Prod.mk.inj (Option.some.inj h)
                                · refine And.intro (fun hp => absurd hp c16) (fun _ => ?_)
                                  rcases px_ite h with ⟨c17, h⟩ | ⟨c17, h⟩
                                  · refine And.intro (fun _ => ?_) (fun hn => absurd c17 hn)
                                    refine H [((0, 0, 0, 3, []), 1), ((27, 0, 0, 0, []), 1)] 106 _ _ _ (by decide +kernel) ?_
                                    exact Prod.mk.inj (Option.some.inj h)
                                  · refine And.intro (fun hp => absurd hp c17) (fun _ => ?_)
                                    rcases px_ite h with ⟨c18, h⟩ | ⟨c18, h⟩
                                    · refine And.intro (fun _ => ?_) (fun hn => absurd c18 hn)
                                      refine H [((0, 0, 0, (-1), []), 1), ((27, 0, 0, 0, []), 1)] 115 _ _ _ (by decide +kernel) ?_
                                      exact Prod.mk.inj (Option.some.inj h)
                                    · refine And.intro (fun hp => absurd hp c18) (fun _ => ?_)
                                      rcases px_ite h with ⟨c19, h⟩ | ⟨c19, h⟩
                                      · refine And.intro (fun _ => ?_) (fun hn => absurd c19 hn)
                                        refine H [((0, 0, 0, (-1), []), 1), ((27, 0, 0, 0, []), 1)] 115 _ _ _ (by decide +kernel) ?_
                                        exact Prod.mk.inj (Option.some.inj h)
                                      · refine And.intro (fun hp => absurd hp c19) (fun _ => ?_)
                                        rcases px_ite h with ⟨c20, h⟩ | ⟨c20, h⟩
                                        · refine And.intro (fun _ => ?_) (fun hn => absurd c20 hn)
                                          refine H [((0, 0, 0, (-1), []), 1), ((27, 0, 0, 0, []), 1)] 115 _ _ _ (by decide +kernel) ?_
                                          exact Prod.mk.inj (Option.some.inj h)
                                        · refine And.intro (fun hp => absurd hp c20) (fun _ => ?_)
                                          rcases px_ite h with ⟨c21, h⟩ | ⟨c21, h⟩
                                          · refine And.intro (fun _ => ?_) (fun hn => absurd c21 hn)
                                            refine H [((0, 0, 0, 6, []), 2), ((27, 0, 0, 0, []), 1)] 112 _ _ _ (by decide +kernel) ?_
                                            exact Prod.mk.inj (Option.some.inj h)
                                          · refine And.intro (fun hp => absurd hp c21) (fun _ => ?_)
                                            refine H [((0, 0, 0, (-1), []), 1), ((27, 0, 0, 0, []), 1)] 115 _ _ _ (by decide +kernel) ?_
                                            exact Prod.mk.inj (Option.some.inj h)
theorem ok_M_factOf {l : Launch} {a0 : Int} {σ : pS} {v : Int} {σ1 : pS} (h : f_M_factOf a0 σ = some (v, σ1)) : Con l 0 152 [.inl a0] σ v σ1 := Con_mk 1 1 rfl (by decide +kernel) (fun _ H => ok_M_factOf_w H _ _ h)
theorem ok_M_notes_84_w {l : Launch} {rv : Int} {rσ : pS} {G : Nat → pL → List pV → pS → Prop} (H : px_R l 0 151 rv rσ G) : ∀ (a1 a2 : Int) (σ : pS), f_M_notes_84 a1 a2 σ = some (rv, rσ) → G 0 [some (.inr 84), some (.inl a1), some (.inl a2)] [] σ := by
  intro a1 a2 σ h
  unfold f_M_notes_84 at h
  refine H [((2, 0, 0, 0, []), 1), ((17, 84, 97, 0, []), 3), ((2, 0, 0, 0, []), 1), ((16, 84, 24, 0, []), 3), ((0, 0, 0, 1048576, []), 2), ((1, 1, 0, 0, []), 1), ((6, 2, 0, 0, []), 1), ((1, 2, 0, 0, []), 1), ((6, 0, 0, 0, []), 1), ((20, 97, 260, 0, []), 1), ((2, 0, 0, 0, []), 1), ((2, 0, 0, 0, []), 1), ((16, 84, 24, 0, []), 3), ((0, 0, 0, 1, []), 1), ((6, 0, 0, 0, []), 1), ((18, 84, 24, 0, []), 3), ((28, 0, 0, 0, []), 1)] 0 _ _ _ (by decide +kernel) ?_
  obtain ⟨g1, h⟩ := px_gd h
  refine And.intro g1 ?_
  exact (Prod.mk.inj (Option.some.inj h)).2
theorem ok_M_notes_84 {l : Launch} {a1 a2 : Int} {σ : pS} {v : Int} {σ1 : pS} (h : f_M_notes_84 a1 a2 σ = some (v, σ1)) : Con l 0 151 [.inr 84, .inl a1, .inl a2] σ v σ1 := Con_mk 3 3 rfl (by decide +kernel) (fun _ H => ok_M_notes_84_w H _ _ _ h)
theorem ok_M_readsNumber_84_p10 {l : Launch} {rv : Int} {rσ : pS} {G : Nat → pL → List pV → pS → Prop} (H : px_R l 2 150 rv rσ G) : ∀ (n : Nat) (a1 : Int) (σ : pS), f_M_readsNumber_84_p10 n a1 σ = some (rv, rσ) → G 10 [some (.inr 84), some (.inl a1)] [] σ := by
  intro n
  induction n with
  | zero =>
    intro a1 σ h
    unfold f_M_readsNumber_84_p10 at h
    cases h
  | succ n ih =>
    intro a1 σ h
    unfold f_M_readsNumber_84_p10 at h
    refine H [((2, 0, 0, 0, []), 1), ((23, 149, 0, 1, [(0, 84)]), 3), ((14, 0, 69, 0, []), 3), ((2, 0, 0, 0, []), 1), ((16, 84, 19, 0, []), 3), ((1, 1, 0, 0, []), 1), ((0, 0, 0, 5, []), 1), ((6, 0, 0, 0, []), 1), ((13, 1, 37, 0, []), 3), ((2, 0, 0, 0, []), 1), ((0, 0, 0, 2, []), 1), ((2, 0, 0, 0, []), 1), ((16, 84, 19, 0, []), 3), ((23, 145, 2, 1, [(0, 84)]), 3), ((27, 1, 0, 0, []), 1)] 10 _ _ _ (by decide +kernel) ?_
    obtain ⟨⟨vq1, σq1⟩, hq1, h⟩ := px_bind h
    dsimp only at h
    refine Exists.intro 1 (Exists.intro vq1 (Exists.intro σq1 (And.intro (Nat.le_of_ble_eq_true rfl) (And.intro (ok_M_isDigit_84 hq1) ?_))))
    rcases px_ite h with ⟨c2, h⟩ | ⟨c2, h⟩
    · refine And.intro (fun _ => ?_) (fun hn => absurd c2 hn)
      refine H [((0, 0, 0, 1, []), 1), ((27, 1, 0, 0, []), 1)] 69 _ _ _ (by decide +kernel) ?_
      refine And.intro (show (0 : Int) ≤ 1 ∧ (1 : Int) ≤ 1 from by decide) ?_
      exact Prod.mk.inj (Option.some.inj h)
    · refine And.intro (fun hp => absurd hp c2) (fun _ => ?_)
      rcases px_ite h with ⟨c3, h⟩ | ⟨c3, h⟩
      · refine And.intro (fun hp => absurd c3 hp) (fun _ => ?_)
        obtain ⟨⟨vq5, σq5⟩, hq5, h⟩ := px_bind h
        dsimp only at h
        refine Exists.intro 0 (Exists.intro vq5 (Exists.intro σq5 (And.intro (Nat.le_of_ble_eq_true rfl) (And.intro (ok_M_wrongAt_84 hq5) ?_))))
        obtain ⟨g6, h⟩ := px_gd h
        refine And.intro g6 ?_
        exact Prod.mk.inj (Option.some.inj h)
      · refine And.intro (fun _ => ?_) (fun hn => absurd c3 hn)
        refine H [((2, 0, 0, 0, []), 1), ((0, 0, 0, 10, []), 2), ((2, 0, 0, 0, []), 1), ((16, 84, 22, 0, []), 3), ((6, 2, 0, 0, []), 1), ((2, 0, 0, 0, []), 1), ((23, 144, 0, 1, [(0, 84)]), 3), ((6, 0, 0, 0, []), 1), ((0, 0, 0, 48, []), 2), ((6, 1, 0, 0, []), 1), ((18, 84, 22, 0, []), 3), ((2, 0, 0, 0, []), 1), ((2, 0, 0, 0, []), 1), ((16, 84, 19, 0, []), 3), ((0, 0, 0, 1, []), 1), ((6, 0, 0, 0, []), 1), ((18, 84, 19, 0, []), 3), ((12, 0, 10, 0, []), 3)] 37 _ _ _ (by decide +kernel) ?_
        obtain ⟨⟨vq4, σq4⟩, hq4, h⟩ := px_bind h
        dsimp only at h
        refine Exists.intro 0 (Exists.intro vq4 (Exists.intro σq4 (And.intro (Nat.le_of_ble_eq_true rfl) (And.intro (ok_M_here_84 hq4) ?_))))
        exact ih _ _ h
theorem ok_M_readsNumber_84_w {l : Launch} {rv : Int} {rσ : pS} {G : Nat → pL → List pV → pS → Prop} (H : px_R l 2 150 rv rσ G) : ∀ (σ : pS), f_M_readsNumber_84  σ = some (rv, rσ) → G 0 [some (.inr 84), none] [] σ := by
  intro  σ h
  unfold f_M_readsNumber_84 at h
  refine H [((2, 0, 0, 0, []), 1), ((16, 84, 19, 0, []), 3), ((3, 1, 0, 0, []), 1), ((2, 0, 0, 0, []), 1), ((0, 0, 0, 0, []), 1), ((18, 84, 22, 0, []), 3)] 0 _ _ _ (by decide +kernel) ?_
  exact ok_M_readsNumber_84_p10 H _ _ _ h
theorem ok_M_readsNumber_84 {l : Launch} {σ : pS} {v : Int} {σ1 : pS} (h : f_M_readsNumber_84  σ = some (v, σ1)) : Con l 2 150 [.inr 84] σ v σ1 := Con_mk 1 2 rfl (by decide +kernel) (fun _ H => ok_M_readsNumber_84_w H  _ h)
theorem ok_M_readsFactor_84_p0 {l : Launch} {rv : Int} {rσ : pS} {G : Nat → pL → List pV → pS → Prop} (H : px_R l 3 147 rv rσ G) : ∀ (n : Nat) (σ : pS), f_M_readsFactor_84_p0 n  σ = some (rv, rσ) → G 0 [some (.inr 84), none] [] σ := by
  intro n
  induction n with
  | zero =>
    intro  σ h
    unfold f_M_readsFactor_84_p0 at h
    cases h
  | succ n ih =>
    intro  σ h
    unfold f_M_readsFactor_84_p0 at h
    refine H [((2, 0, 0, 0, []), 1), ((23, 144, 0, 1, [(0, 84)]), 3), ((0, 0, 0, 91, []), 2), ((13, 1, 20, 0, []), 3), ((2, 0, 0, 0, []), 1), ((0, 0, 0, 14, []), 2), ((23, 148, 1, 1, [(0, 84)]), 3), ((14, 1, 0, 0, []), 3), ((0, 0, 0, 0, []), 1), ((27, 1, 0, 0, []), 1)] 0 _ _ _ (by decide +kernel) ?_
    obtain ⟨⟨vq1, σq1⟩, hq1, h⟩ := px_bind h
    dsimp only at h
    refine Exists.intro 0 (Exists.intro vq1 (Exists.intro σq1 (And.intro (Nat.le_of_ble_eq_true rfl) (And.intro (ok_M_here_84 hq1) ?_))))
    rcases px_ite h with ⟨c2, h⟩ | ⟨c2, h⟩
    · refine And.intro (fun hp => absurd c2 hp) (fun _ => ?_)
      obtain ⟨⟨vq14, σq14⟩, hq14, h⟩ := px_bind h
      dsimp only at h
      refine Exists.intro 1 (Exists.intro vq14 (Exists.intro σq14 (And.intro (Nat.le_of_ble_eq_true rfl) (And.intro (ok_M_opens_84 hq14) ?_))))
      rcases px_ite h with ⟨c15, h⟩ | ⟨c15, h⟩
      · refine And.intro (fun hp => absurd c15 hp) (fun _ => ?_)
        refine And.intro (show (0 : Int) ≤ 0 ∧ (0 : Int) ≤ 1 from by decide) ?_
        exact Prod.mk.inj (Option.some.inj h)
      · refine And.intro (fun _ => ?_) (fun hn => absurd c15 hn)
        exact ih  _ h
    · refine And.intro (fun _ => ?_) (fun hn => absurd c2 hn)
      refine H [((2, 0, 0, 0, []), 1), ((23, 149, 0, 1, [(0, 84)]), 3), ((14, 0, 47, 0, []), 3), ((2, 0, 0, 0, []), 1), ((23, 150, 0, 1, [(0, 84)]), 3), ((14, 1, 36, 0, []), 3), ((0, 0, 0, 0, []), 1), ((27, 1, 0, 0, []), 1)] 20 _ _ _ (by decide +kernel) ?_
      obtain ⟨⟨vq3, σq3⟩, hq3, h⟩ := px_bind h
      dsimp only at h
      refine Exists.intro 1 (Exists.intro vq3 (Exists.intro σq3 (And.intro (Nat.le_of_ble_eq_true rfl) (And.intro (ok_M_isDigit_84 hq3) ?_))))
      rcases px_ite h with ⟨c4, h⟩ | ⟨c4, h⟩
      · refine And.intro (fun _ => ?_) (fun hn => absurd c4 hn)
        refine H [((2, 0, 0, 0, []), 1), ((23, 144, 0, 1, [(0, 84)]), 3), ((24, 152, 1, 1, []), 3), ((3, 1, 0, 0, []), 1), ((1, 1, 0, 0, []), 1), ((0, 0, 0, (-1), []), 1), ((13, 1, 70, 0, []), 3), ((2, 0, 0, 0, []), 1), ((0, 0, 0, 1, []), 1), ((2, 0, 0, 0, []), 1), ((16, 84, 19, 0, []), 3), ((23, 145, 2, 1, [(0, 84)]), 3), ((27, 1, 0, 0, []), 1)] 47 _ _ _ (by decide +kernel) ?_
        obtain ⟨⟨vq5, σq5⟩, hq5, h⟩ := px_bind h
        dsimp only at h
        refine Exists.intro 0 (Exists.intro vq5 (Exists.intro σq5 (And.intro (Nat.le_of_ble_eq_true rfl) (And.intro (ok_M_here_84 hq5) ?_))))
        obtain ⟨⟨vq6, σq6⟩, hq6, h⟩ := px_bind h
        dsimp only at h
        refine Exists.intro 0 (Exists.intro vq6 (Exists.intro σq6 (And.intro (Nat.le_of_ble_eq_true rfl) (And.intro (ok_M_factOf hq6) ?_))))
        rcases px_ite h with ⟨c7, h⟩ | ⟨c7, h⟩
        · refine And.intro (fun hp => absurd c7 hp) (fun _ => ?_)
          obtain ⟨⟨vq9, σq9⟩, hq9, h⟩ := px_bind h
          dsimp only at h
          refine Exists.intro 0 (Exists.intro vq9 (Exists.intro σq9 (And.intro (Nat.le_of_ble_eq_true rfl) (And.intro (ok_M_wrongAt_84 hq9) ?_))))
          obtain ⟨g10, h⟩ := px_gd h
          refine And.intro g10 ?_
          exact Prod.mk.inj (Option.some.inj h)
        · refine And.intro (fun _ => ?_) (fun hn => absurd c7 hn)
          refine H [((2, 0, 0, 0, []), 1), ((0, 0, 0, 1, []), 1), ((1, 1, 0, 0, []), 1), ((23, 151, 2, 0, [(0, 84)]), 3), ((2, 0, 0, 0, []), 1), ((2, 0, 0, 0, []), 1), ((16, 84, 19, 0, []), 3), ((0, 0, 0, 1, []), 1), ((6, 0, 0, 0, []), 1), ((18, 84, 19, 0, []), 3), ((0, 0, 0, 1, []), 1), ((27, 1, 0, 0, []), 1)] 70 _ _ _ (by decide +kernel) ?_
          obtain ⟨⟨vq8, σq8⟩, hq8, h⟩ := px_bind h
          dsimp only at h
          refine Exists.intro 0 (Exists.intro vq8 (Exists.intro σq8 (And.intro (Nat.le_of_ble_eq_true rfl) (And.intro (ok_M_notes_84 hq8) ?_))))
          refine And.intro (show (0 : Int) ≤ 1 ∧ (1 : Int) ≤ 1 from by decide) ?_
          exact Prod.mk.inj (Option.some.inj h)
      · refine And.intro (fun hp => absurd hp c4) (fun _ => ?_)
        obtain ⟨⟨vq11, σq11⟩, hq11, h⟩ := px_bind h
        dsimp only at h
        refine Exists.intro 2 (Exists.intro vq11 (Exists.intro σq11 (And.intro (Nat.le_of_ble_eq_true rfl) (And.intro (ok_M_readsNumber_84 hq11) ?_))))
        rcases px_ite h with ⟨c12, h⟩ | ⟨c12, h⟩
        · refine And.intro (fun hp => absurd c12 hp) (fun _ => ?_)
          refine And.intro (show (0 : Int) ≤ 0 ∧ (0 : Int) ≤ 1 from by decide) ?_
          exact Prod.mk.inj (Option.some.inj h)
        · refine And.intro (fun _ => ?_) (fun hn => absurd c12 hn)
          refine H [((2, 0, 0, 0, []), 1), ((0, 0, 0, 0, []), 1), ((2, 0, 0, 0, []), 1), ((16, 84, 22, 0, []), 3), ((23, 151, 2, 0, [(0, 84)]), 3), ((0, 0, 0, 1, []), 1), ((27, 1, 0, 0, []), 1)] 36 _ _ _ (by decide +kernel) ?_
          obtain ⟨⟨vq13, σq13⟩, hq13, h⟩ := px_bind h
          dsimp only at h
          refine Exists.intro 0 (Exists.intro vq13 (Exists.intro σq13 (And.intro (Nat.le_of_ble_eq_true rfl) (And.intro (ok_M_notes_84 hq13) ?_))))
          refine And.intro (show (0 : Int) ≤ 1 ∧ (1 : Int) ≤ 1 from by decide) ?_
          exact Prod.mk.inj (Option.some.inj h)
theorem ok_M_readsFactor_84_w {l : Launch} {rv : Int} {rσ : pS} {G : Nat → pL → List pV → pS → Prop} (H : px_R l 3 147 rv rσ G) : ∀ (σ : pS), f_M_readsFactor_84  σ = some (rv, rσ) → G 0 [some (.inr 84), none] [] σ := by
  intro  σ h
  unfold f_M_readsFactor_84 at h
  refine H [] 0 _ _ _ (by decide +kernel) ?_
  exact ok_M_readsFactor_84_p0 H _  _ h
theorem ok_M_readsFactor_84 {l : Launch} {σ : pS} {v : Int} {σ1 : pS} (h : f_M_readsFactor_84  σ = some (v, σ1)) : Con l 3 147 [.inr 84] σ v σ1 := Con_mk 1 2 rfl (by decide +kernel) (fun _ H => ok_M_readsFactor_84_w H  _ h)
theorem ok_M_sumSign_w {l : Launch} {rv : Int} {rσ : pS} {G : Nat → pL → List pV → pS → Prop} (H : px_R l 0 153 rv rσ G) : ∀ (a0 : Int) (σ : pS), f_M_sumSign a0 σ = some (rv, rσ) → G 0 [some (.inl a0)] [] σ := by
  intro a0 σ h
  unfold f_M_sumSign at h
  refine H [((1, 0, 0, 0, []), 1), ((0, 0, 0, 43, []), 2), ((13, 1, 10, 0, []), 3), ((0, 0, 0, 2, []), 1), ((12, 0, 52, 0, []), 3), ((27, 0, 0, 0, []), 1)] 0 _ _ _ (by decide +kernel) ?_
  rcases px_ite h with ⟨c1, h⟩ | ⟨c1, h⟩
  · refine And.intro (fun hp => absurd c1 hp) (fun _ => ?_)
    exact Prod.mk.inj (Option.some.inj h)
  · refine And.intro (fun _ => ?_) (fun hn => absurd c1 hn)
    refine H [((1, 0, 0, 0, []), 1), ((0, 0, 0, 45, []), 2), ((13, 1, 20, 0, []), 3), ((0, 0, 0, 3, []), 1), ((12, 0, 52, 0, []), 3), ((27, 0, 0, 0, []), 1)] 10 _ _ _ (by decide +kernel) ?_
    rcases px_ite h with ⟨c2, h⟩ | ⟨c2, h⟩
    · refine And.intro (fun hp => absurd c2 hp) (fun _ => ?_)
      exact Prod.mk.inj (Option.some.inj h)
    · refine And.intro (fun _ => ?_) (fun hn => absurd c2 hn)
      refine H [((1, 0, 0, 0, []), 1), ((0, 0, 0, 42, []), 2), ((13, 1, 30, 0, []), 3), ((0, 0, 0, 4, []), 1), ((12, 0, 52, 0, []), 3), ((27, 0, 0, 0, []), 1)] 20 _ _ _ (by decide +kernel) ?_
      rcases px_ite h with ⟨c3, h⟩ | ⟨c3, h⟩
      · refine And.intro (fun hp => absurd c3 hp) (fun _ => ?_)
        exact Prod.mk.inj (Option.some.inj h)
      · refine And.intro (fun _ => ?_) (fun hn => absurd c3 hn)
        refine H [((1, 0, 0, 0, []), 1), ((0, 0, 0, 47, []), 2), ((13, 1, 40, 0, []), 3), ((0, 0, 0, 5, []), 1), ((12, 0, 52, 0, []), 3), ((27, 0, 0, 0, []), 1)] 30 _ _ _ (by decide +kernel) ?_
        rcases px_ite h with ⟨c4, h⟩ | ⟨c4, h⟩
        · refine And.intro (fun hp => absurd c4 hp) (fun _ => ?_)
          exact Prod.mk.inj (Option.some.inj h)
        · refine And.intro (fun _ => ?_) (fun hn => absurd c4 hn)
          refine H [((1, 0, 0, 0, []), 1), ((0, 0, 0, 37, []), 2), ((13, 1, 51, 0, []), 3), ((0, 0, 0, 6, []), 2), ((12, 0, 52, 0, []), 3), ((27, 0, 0, 0, []), 1)] 40 _ _ _ (by decide +kernel) ?_
          rcases px_ite h with ⟨c5, h⟩ | ⟨c5, h⟩
          · refine And.intro (fun hp => absurd c5 hp) (fun _ => ?_)
            exact Prod.mk.inj (Option.some.inj h)
          · refine And.intro (fun _ => ?_) (fun hn => absurd c5 hn)
            refine H [((0, 0, 0, (-1), []), 1), ((27, 0, 0, 0, []), 1)] 51 _ _ _ (by decide +kernel) ?_
            exact Prod.mk.inj (Option.some.inj h)
theorem ok_M_sumSign {l : Launch} {a0 : Int} {σ : pS} {v : Int} {σ1 : pS} (h : f_M_sumSign a0 σ = some (v, σ1)) : Con l 0 153 [.inl a0] σ v σ1 := Con_mk 1 1 rfl (by decide +kernel) (fun _ H => ok_M_sumSign_w H _ _ h)
theorem ok_M_hasOpenSum_84_p2 {l : Launch} {rv : Int} {rσ : pS} {G : Nat → pL → List pV → pS → Prop} (H : px_R l 0 156 rv rσ G) : ∀ (n : Nat) (a2 : Int) (σ : pS), f_M_hasOpenSum_84_p2 n a2 σ = some (rv, rσ) → G 2 [some (.inr 84), none, some (.inl a2)] [] σ := by
  intro n
  induction n with
  | zero =>
    intro a2 σ h
    unfold f_M_hasOpenSum_84_p2 at h
    cases h
  | succ n ih =>
    intro a2 σ h
    unfold f_M_hasOpenSum_84_p2 at h
    refine H [((1, 2, 0, 0, []), 1), ((2, 0, 0, 0, []), 1), ((16, 84, 25, 0, []), 3), ((13, 3, 32, 0, []), 3), ((2, 0, 0, 0, []), 1), ((17, 84, 98, 0, []), 3), ((1, 2, 0, 0, []), 1), ((19, 98, 260, 0, []), 1), ((0, 0, 0, 1048576, []), 2), ((7, 0, 0, 0, []), 1), ((0, 0, 0, 14, []), 2), ((13, 1, 26, 0, []), 3), ((0, 0, 0, 1, []), 1), ((27, 1, 0, 0, []), 1)] 2 _ _ _ (by decide +kernel) ?_
    rcases px_ite h with ⟨c1, h⟩ | ⟨c1, h⟩
    · refine And.intro (fun _ => ?_) (fun hn => absurd c1 hn)
      refine H [((0, 0, 0, 0, []), 1), ((27, 1, 0, 0, []), 1)] 32 _ _ _ (by decide +kernel) ?_
      refine And.intro (show (0 : Int) ≤ 0 ∧ (0 : Int) ≤ 1 from by decide) ?_
      exact Prod.mk.inj (Option.some.inj h)
    · refine And.intro (fun hp => absurd hp c1) (fun _ => ?_)
      obtain ⟨g2, h⟩ := px_gd h
      refine And.intro g2 ?_
      refine And.intro (show (1048576 : Int) ≠ 0 from by decide) (fun r3 hr3 => ?_)
      replace hr3 : r3 = pDiv (σ 98 a2.toNat) 1048576 := hr3.trans (px_dr_0 _ _)
      try rw [← hr3] at h
      rcases px_ite h with ⟨c4, h⟩ | ⟨c4, h⟩
      · refine And.intro (fun hp => absurd c4 hp) (fun _ => ?_)
        refine And.intro (show (0 : Int) ≤ 1 ∧ (1 : Int) ≤ 1 from by decide) ?_
        exact Prod.mk.inj (Option.some.inj h)
      · refine And.intro (fun _ => ?_) (fun hn => absurd c4 hn)
        refine H [((5, 2, 0, 1, []), 3), ((12, 0, 2, 0, []), 3)] 26 _ _ _ (by decide +kernel) ?_
        exact ih _ _ h
theorem ok_M_hasOpenSum_84_w {l : Launch} {rv : Int} {rσ : pS} {G : Nat → pL → List pV → pS → Prop} (H : px_R l 0 156 rv rσ G) : ∀ (a1 : Int) (σ : pS), f_M_hasOpenSum_84 a1 σ = some (rv, rσ) → G 0 [some (.inr 84), some (.inl a1), none] [] σ := by
  intro a1 σ h
  unfold f_M_hasOpenSum_84 at h
  refine H [((1, 1, 0, 0, []), 1), ((3, 2, 0, 0, []), 1), ((29, 1, 0, 0, []), 0)] 0 _ _ _ (by decide +kernel) ?_
  exact ok_M_hasOpenSum_84_p2 H _ _ _ h
theorem ok_M_hasOpenSum_84 {l : Launch} {a1 : Int} {σ : pS} {v : Int} {σ1 : pS} (h : f_M_hasOpenSum_84 a1 σ = some (v, σ1)) : Con l 0 156 [.inr 84, .inl a1] σ v σ1 := Con_mk 2 3 rfl (by decide +kernel) (fun _ H => ok_M_hasOpenSum_84_w H _ _ h)
theorem ok_M_waitTop_84_w {l : Launch} {rv : Int} {rσ : pS} {G : Nat → pL → List pV → pS → Prop} (H : px_R l 0 155 rv rσ G) : ∀ (σ : pS), f_M_waitTop_84  σ = some (rv, rσ) → G 0 [some (.inr 84)] [] σ := by
  intro  σ h
  unfold f_M_waitTop_84 at h
  refine H [((2, 0, 0, 0, []), 1), ((16, 84, 25, 0, []), 3), ((14, 1, 11, 0, []), 3), ((0, 0, 0, (-1), []), 1), ((12, 0, 25, 0, []), 3), ((27, 0, 0, 0, []), 1)] 0 _ _ _ (by decide +kernel) ?_
  rcases px_ite h with ⟨c1, h⟩ | ⟨c1, h⟩
  · refine And.intro (fun hp => absurd c1 hp) (fun _ => ?_)
    exact Prod.mk.inj (Option.some.inj h)
  · refine And.intro (fun _ => ?_) (fun hn => absurd c1 hn)
    refine H [((2, 0, 0, 0, []), 1), ((17, 84, 98, 0, []), 3), ((2, 0, 0, 0, []), 1), ((16, 84, 25, 0, []), 3), ((0, 0, 0, 1, []), 1), ((6, 1, 0, 0, []), 1), ((19, 98, 260, 0, []), 1), ((0, 0, 0, 1048576, []), 2), ((7, 0, 0, 0, []), 1), ((27, 0, 0, 0, []), 1)] 11 _ _ _ (by decide +kernel) ?_
    obtain ⟨g2, h⟩ := px_gd h
    refine And.intro g2 ?_
    refine And.intro (show (1048576 : Int) ≠ 0 from by decide) (fun r3 hr3 => ?_)
    replace hr3 : r3 = pDiv (σ 98 (pw ((σ 84 25) - 1)).toNat) 1048576 := hr3.trans (px_dr_0 _ _)
    try rw [← hr3] at h
    exact Prod.mk.inj (Option.some.inj h)
theorem ok_M_waitTop_84 {l : Launch} {σ : pS} {v : Int} {σ1 : pS} (h : f_M_waitTop_84  σ = some (v, σ1)) : Con l 0 155 [.inr 84] σ v σ1 := Con_mk 1 1 rfl (by decide +kernel) (fun _ H => ok_M_waitTop_84_w H  _ h)
theorem ok_M_closesSums_84_p37 {l : Launch} {rv : Int} {rσ : pS} {G : Nat → pL → List pV → pS → Prop} (H : px_R l 1 154 rv rσ G) {k_0 : Int → pS → Option (Int × pS)} (hk_0 : ∀ (a1 : Int) (σ : pS), k_0 a1 σ = some (rv, rσ) → G 0 [some (.inr 84), some (.inl a1)] [] σ) : ∀ (a1 : Int) (σ : pS), f_M_closesSums_84_p37 k_0 a1 σ = some (rv, rσ) → G 37 [some (.inr 84), some (.inl a1)] [] σ := by
  intro a1 σ h
  unfold f_M_closesSums_84_p37 at h
  refine H [((2, 0, 0, 0, []), 1), ((2, 0, 0, 0, []), 1), ((23, 155, 0, 1, [(0, 84)]), 3), ((0, 0, 0, 0, []), 1), ((23, 151, 2, 0, [(0, 84)]), 3), ((2, 0, 0, 0, []), 1), ((2, 0, 0, 0, []), 1), ((16, 84, 25, 0, []), 3), ((0, 0, 0, 1, []), 1), ((6, 1, 0, 0, []), 1), ((18, 84, 25, 0, []), 3), ((12, 0, 0, 0, []), 3)] 37 _ _ _ (by decide +kernel) ?_
  obtain ⟨⟨vq6, σq6⟩, hq6, h⟩ := px_bind h
  dsimp only at h
  refine Exists.intro 0 (Exists.intro vq6 (Exists.intro σq6 (And.intro (Nat.le_of_ble_eq_true rfl) (And.intro (ok_M_waitTop_84 hq6) ?_))))
  obtain ⟨⟨vq7, σq7⟩, hq7, h⟩ := px_bind h
  dsimp only at h
  refine Exists.intro 0 (Exists.intro vq7 (Exists.intro σq7 (And.intro (Nat.le_of_ble_eq_true rfl) (And.intro (ok_M_notes_84 hq7) ?_))))
  exact hk_0 _ _ h
theorem ok_M_closesSums_84_p17 {l : Launch} {rv : Int} {rσ : pS} {G : Nat → pL → List pV → pS → Prop} (H : px_R l 1 154 rv rσ G) {k_0 : Int → pS → Option (Int × pS)} (hk_0 : ∀ (a1 : Int) (σ : pS), k_0 a1 σ = some (rv, rσ) → G 0 [some (.inr 84), some (.inl a1)] [] σ) : ∀ (a1 : Int) (σ : pS), f_M_closesSums_84_p17 k_0 a1 σ = some (rv, rσ) → G 17 [some (.inr 84), some (.inl a1)] [] σ := by
  intro a1 σ h
  unfold f_M_closesSums_84_p17 at h
  refine H [((1, 1, 0, 0, []), 1), ((14, 0, 59, 0, []), 3), ((2, 0, 0, 0, []), 1), ((23, 155, 0, 1, [(0, 84)]), 3), ((0, 0, 0, 2, []), 1), ((13, 0, 37, 0, []), 3), ((2, 0, 0, 0, []), 1), ((23, 155, 0, 1, [(0, 84)]), 3), ((0, 0, 0, 3, []), 1), ((13, 1, 59, 0, []), 3)] 17 _ _ _ (by decide +kernel) ?_
  rcases px_ite h with ⟨c3, h⟩ | ⟨c3, h⟩
  · refine And.intro (fun _ => ?_) (fun hn => absurd c3 hn)
    refine H [((28, 0, 0, 0, []), 1)] 59 _ _ _ (by decide +kernel) ?_
    exact (Prod.mk.inj (Option.some.inj h)).2
  · refine And.intro (fun hp => absurd hp c3) (fun _ => ?_)
    obtain ⟨⟨vq4, σq4⟩, hq4, h⟩ := px_bind h
    dsimp only at h
    refine Exists.intro 0 (Exists.intro vq4 (Exists.intro σq4 (And.intro (Nat.le_of_ble_eq_true rfl) (And.intro (ok_M_waitTop_84 hq4) ?_))))
    rcases px_ite h with ⟨c5, h⟩ | ⟨c5, h⟩
    · refine And.intro (fun _ => ?_) (fun hn => absurd c5 hn)
      exact ok_M_closesSums_84_p37 H hk_0 _ _ h
    · refine And.intro (fun hp => absurd hp c5) (fun _ => ?_)
      obtain ⟨⟨vq8, σq8⟩, hq8, h⟩ := px_bind h
      dsimp only at h
      refine Exists.intro 0 (Exists.intro vq8 (Exists.intro σq8 (And.intro (Nat.le_of_ble_eq_true rfl) (And.intro (ok_M_waitTop_84 hq8) ?_))))
      rcases px_ite h with ⟨c9, h⟩ | ⟨c9, h⟩
      · refine And.intro (fun hp => absurd c9 hp) (fun _ => ?_)
        exact ok_M_closesSums_84_p37 H hk_0 _ _ h
      · refine And.intro (fun _ => ?_) (fun hn => absurd c9 hn)
        refine H [((28, 0, 0, 0, []), 1)] 59 _ _ _ (by decide +kernel) ?_
        exact (Prod.mk.inj (Option.some.inj h)).2
theorem ok_M_closesSums_84_p0 {l : Launch} {rv : Int} {rσ : pS} {G : Nat → pL → List pV → pS → Prop} (H : px_R l 1 154 rv rσ G) : ∀ (n : Nat) (a1 : Int) (σ : pS), f_M_closesSums_84_p0 n a1 σ = some (rv, rσ) → G 0 [some (.inr 84), some (.inl a1)] [] σ := by
  intro n
  induction n with
  | zero =>
    intro a1 σ h
    unfold f_M_closesSums_84_p0 at h
    cases h
  | succ n ih =>
    intro a1 σ h
    unfold f_M_closesSums_84_p0 at h
    refine H [((2, 0, 0, 0, []), 1), ((23, 155, 0, 1, [(0, 84)]), 3), ((0, 0, 0, 4, []), 1), ((13, 2, 17, 0, []), 3), ((2, 0, 0, 0, []), 1), ((23, 155, 0, 1, [(0, 84)]), 3), ((0, 0, 0, 6, []), 2), ((13, 5, 37, 0, []), 3)] 0 _ _ _ (by decide +kernel) ?_
    obtain ⟨⟨vq1, σq1⟩, hq1, h⟩ := px_bind h
    dsimp only at h
    refine Exists.intro 0 (Exists.intro vq1 (Exists.intro σq1 (And.intro (Nat.le_of_ble_eq_true rfl) (And.intro (ok_M_waitTop_84 hq1) ?_))))
    rcases px_ite h with ⟨c2, h⟩ | ⟨c2, h⟩
    · refine And.intro (fun _ => ?_) (fun hn => absurd c2 hn)
      exact ok_M_closesSums_84_p17 H ih _ _ h
    · refine And.intro (fun hp => absurd hp c2) (fun _ => ?_)
      obtain ⟨⟨vq10, σq10⟩, hq10, h⟩ := px_bind h
      dsimp only at h
      refine Exists.intro 0 (Exists.intro vq10 (Exists.intro σq10 (And.intro (Nat.le_of_ble_eq_true rfl) (And.intro (ok_M_waitTop_84 hq10) ?_))))
      rcases px_ite h with ⟨c11, h⟩ | ⟨c11, h⟩
      · refine And.intro (fun _ => ?_) (fun hn => absurd c11 hn)
        exact ok_M_closesSums_84_p37 H ih _ _ h
      · refine And.intro (fun hp => absurd hp c11) (fun _ => ?_)
        exact ok_M_closesSums_84_p17 H ih _ _ h
theorem ok_M_closesSums_84_w {l : Launch} {rv : Int} {rσ : pS} {G : Nat → pL → List pV → pS → Prop} (H : px_R l 1 154 rv rσ G) : ∀ (a1 : Int) (σ : pS), f_M_closesSums_84 a1 σ = some (rv, rσ) → G 0 [some (.inr 84), some (.inl a1)] [] σ := by
  intro a1 σ h
  unfold f_M_closesSums_84 at h
  refine H [] 0 _ _ _ (by decide +kernel) ?_
  exact ok_M_closesSums_84_p0 H _ _ _ h
theorem ok_M_closesSums_84 {l : Launch} {a1 : Int} {σ : pS} {v : Int} {σ1 : pS} (h : f_M_closesSums_84 a1 σ = some (v, σ1)) : Con l 1 154 [.inr 84, .inl a1] σ v σ1 := Con_mk 2 2 rfl (by decide +kernel) (fun _ H => ok_M_closesSums_84_w H _ _ h)
theorem ok_M_readsSum_84_p138 {l : Launch} {rv : Int} {rσ : pS} {G : Nat → pL → List pV → pS → Prop} (H : px_R l 4 146 rv rσ G) : ∀ (a1 : Int) (σ : pS), f_M_readsSum_84_p138 a1 σ = some (rv, rσ) → G 138 [some (.inr 84), some (.inl a1), none] [] σ := by
  intro a1 σ h
  unfold f_M_readsSum_84_p138 at h
  refine H [((2, 0, 0, 0, []), 1), ((1, 1, 0, 0, []), 1), ((23, 156, 1, 1, [(0, 84)]), 3), ((14, 0, 156, 0, []), 3), ((2, 0, 0, 0, []), 1), ((0, 0, 0, 1, []), 1), ((2, 0, 0, 0, []), 1), ((16, 84, 19, 0, []), 3), ((23, 145, 2, 1, [(0, 84)]), 3), ((27, 1, 0, 0, []), 1)] 138 _ _ _ (by decide +kernel) ?_
  obtain ⟨⟨vq8, σq8⟩, hq8, h⟩ := px_bind h
  dsimp only at h
  refine Exists.intro 0 (Exists.intro vq8 (Exists.intro σq8 (And.intro (Nat.le_of_ble_eq_true rfl) (And.intro (ok_M_hasOpenSum_84 hq8) ?_))))
  rcases px_ite h with ⟨c9, h⟩ | ⟨c9, h⟩
  · refine And.intro (fun _ => ?_) (fun hn => absurd c9 hn)
    refine H [((2, 0, 0, 0, []), 1), ((0, 0, 0, 1, []), 1), ((23, 154, 1, 0, [(0, 84)]), 3), ((0, 0, 0, 1, []), 1), ((27, 1, 0, 0, []), 1)] 156 _ _ _ (by decide +kernel) ?_
    obtain ⟨⟨vq10, σq10⟩, hq10, h⟩ := px_bind h
    dsimp only at h
    refine Exists.intro 1 (Exists.intro vq10 (Exists.intro σq10 (And.intro (Nat.le_of_ble_eq_true rfl) (And.intro (ok_M_closesSums_84 hq10) ?_))))
    refine And.intro (show (0 : Int) ≤ 1 ∧ (1 : Int) ≤ 1 from by decide) ?_
    exact Prod.mk.inj (Option.some.inj h)
  · refine And.intro (fun hp => absurd hp c9) (fun _ => ?_)
    obtain ⟨⟨vq11, σq11⟩, hq11, h⟩ := px_bind h
    dsimp only at h
    refine Exists.intro 0 (Exists.intro vq11 (Exists.intro σq11 (And.intro (Nat.le_of_ble_eq_true rfl) (And.intro (ok_M_wrongAt_84 hq11) ?_))))
    obtain ⟨g12, h⟩ := px_gd h
    refine And.intro g12 ?_
    exact Prod.mk.inj (Option.some.inj h)
theorem ok_M_readsSum_84_p38 {l : Launch} {rv : Int} {rσ : pS} {G : Nat → pL → List pV → pS → Prop} (H : px_R l 4 146 rv rσ G) {k_14 : Int → pS → Option (Int × pS)} (hk_14 : ∀ (a1 : Int) (σ : pS), k_14 a1 σ = some (rv, rσ) → G 14 [some (.inr 84), some (.inl a1), none] [] σ) : ∀ (a1 a2 s0 : Int) (σ : pS), f_M_readsSum_84_p38 k_14 a1 a2 s0 σ = some (rv, rσ) → G 38 [some (.inr 84), some (.inl a1), some (.inl a2)] [.inl s0, .inr 84] σ := by
  intro a1 a2 s0 σ h
  unfold f_M_readsSum_84_p38 at h
  refine H [((23, 154, 1, 0, [(0, 84)]), 3), ((2, 0, 0, 0, []), 1), ((17, 84, 98, 0, []), 3), ((2, 0, 0, 0, []), 1), ((16, 84, 25, 0, []), 3), ((0, 0, 0, 1048576, []), 2), ((1, 2, 0, 0, []), 1), ((6, 2, 0, 0, []), 1), ((20, 98, 260, 0, []), 1), ((2, 0, 0, 0, []), 1), ((2, 0, 0, 0, []), 1), ((16, 84, 25, 0, []), 3), ((0, 0, 0, 1, []), 1), ((6, 0, 0, 0, []), 1), ((18, 84, 25, 0, []), 3), ((2, 0, 0, 0, []), 1), ((2, 0, 0, 0, []), 1), ((16, 84, 19, 0, []), 3), ((0, 0, 0, 1, []), 1), ((6, 0, 0, 0, []), 1), ((18, 84, 19, 0, []), 3), ((2, 0, 0, 0, []), 1), ((23, 147, 0, 1, [(0, 84)]), 3), ((14, 1, 163, 0, []), 3), ((0, 0, 0, 0, []), 1), ((27, 1, 0, 0, []), 1)] 38 _ _ _ (by decide +kernel) ?_
  obtain ⟨⟨vq17, σq17⟩, hq17, h⟩ := px_bind h
  dsimp only at h
  refine Exists.intro 1 (Exists.intro vq17 (Exists.intro σq17 (And.intro (Nat.le_of_ble_eq_true rfl) (And.intro (ok_M_closesSums_84 hq17) ?_))))
  obtain ⟨g18, h⟩ := px_gd h
  refine And.intro g18 ?_
  obtain ⟨⟨vq19, σq19⟩, hq19, h⟩ := px_bind h
  dsimp only at h
  refine Exists.intro 3 (Exists.intro vq19 (Exists.intro σq19 (And.intro (Nat.le_of_ble_eq_true rfl) (And.intro (ok_M_readsFactor_84 hq19) ?_))))
  rcases px_ite h with ⟨c20, h⟩ | ⟨c20, h⟩
  · refine And.intro (fun hp => absurd c20 hp) (fun _ => ?_)
    refine And.intro (show (0 : Int) ≤ 0 ∧ (0 : Int) ≤ 1 from by decide) ?_
    exact Prod.mk.inj (Option.some.inj h)
  · refine And.intro (fun _ => ?_) (fun hn => absurd c20 hn)
    refine H [((12, 0, 14, 0, []), 3), ((29, 2, 0, 0, []), 0)] 163 _ _ _ (by decide +kernel) ?_
    exact hk_14 _ _ h
theorem ok_M_readsSum_84_p14 {l : Launch} {rv : Int} {rσ : pS} {G : Nat → pL → List pV → pS → Prop} (H : px_R l 4 146 rv rσ G) : ∀ (n : Nat) (a1 : Int) (σ : pS), f_M_readsSum_84_p14 n a1 σ = some (rv, rσ) → G 14 [some (.inr 84), some (.inl a1), none] [] σ := by
  intro n
  induction n with
  | zero =>
    intro a1 σ h
    unfold f_M_readsSum_84_p14 at h
    cases h
  | succ n ih =>
    intro a1 σ h
    unfold f_M_readsSum_84_p14 at h
    refine H [((2, 0, 0, 0, []), 1), ((23, 144, 0, 1, [(0, 84)]), 3), ((24, 153, 1, 1, []), 3), ((3, 2, 0, 0, []), 1), ((1, 2, 0, 0, []), 1), ((0, 0, 0, (-1), []), 1), ((13, 0, 83, 0, []), 3), ((2, 0, 0, 0, []), 1), ((1, 2, 0, 0, []), 1), ((0, 0, 0, 4, []), 1), ((13, 3, 37, 0, []), 3), ((0, 0, 0, 1, []), 1), ((12, 0, 38, 0, []), 3)] 14 _ _ _ (by decide +kernel) ?_
    obtain ⟨⟨vq3, σq3⟩, hq3, h⟩ := px_bind h
    dsimp only at h
    refine Exists.intro 0 (Exists.intro vq3 (Exists.intro σq3 (And.intro (Nat.le_of_ble_eq_true rfl) (And.intro (ok_M_here_84 hq3) ?_))))
    obtain ⟨⟨vq4, σq4⟩, hq4, h⟩ := px_bind h
    dsimp only at h
    refine Exists.intro 0 (Exists.intro vq4 (Exists.intro σq4 (And.intro (Nat.le_of_ble_eq_true rfl) (And.intro (ok_M_sumSign hq4) ?_))))
    rcases px_ite h with ⟨c5, h⟩ | ⟨c5, h⟩
    · refine And.intro (fun _ => ?_) (fun hn => absurd c5 hn)
      refine H [((2, 0, 0, 0, []), 1), ((23, 144, 0, 1, [(0, 84)]), 3), ((0, 0, 0, 93, []), 2), ((13, 1, 138, 0, []), 3), ((2, 0, 0, 0, []), 1), ((1, 1, 0, 0, []), 1), ((23, 156, 1, 1, [(0, 84)]), 3), ((14, 0, 138, 0, []), 3), ((2, 0, 0, 0, []), 1), ((0, 0, 0, 1, []), 1), ((23, 154, 1, 0, [(0, 84)]), 3), ((2, 0, 0, 0, []), 1), ((2, 0, 0, 0, []), 1), ((16, 84, 25, 0, []), 3), ((0, 0, 0, 1, []), 1), ((6, 1, 0, 0, []), 1), ((18, 84, 25, 0, []), 3), ((2, 0, 0, 0, []), 1), ((2, 0, 0, 0, []), 1), ((16, 84, 23, 0, []), 3), ((0, 0, 0, 1, []), 1), ((6, 1, 0, 0, []), 1), ((18, 84, 23, 0, []), 3), ((2, 0, 0, 0, []), 1), ((2, 0, 0, 0, []), 1), ((16, 84, 19, 0, []), 3), ((0, 0, 0, 1, []), 1), ((6, 0, 0, 0, []), 1), ((18, 84, 19, 0, []), 3), ((12, 0, 163, 0, []), 3), ((12, 0, 14, 0, []), 3), ((29, 2, 0, 0, []), 0)] 83 _ _ _ (by decide +kernel) ?_
      obtain ⟨⟨vq6, σq6⟩, hq6, h⟩ := px_bind h
      dsimp only at h
      refine Exists.intro 0 (Exists.intro vq6 (Exists.intro σq6 (And.intro (Nat.le_of_ble_eq_true rfl) (And.intro (ok_M_here_84 hq6) ?_))))
      rcases px_ite h with ⟨c7, h⟩ | ⟨c7, h⟩
      · refine And.intro (fun hp => absurd c7 hp) (fun _ => ?_)
        obtain ⟨⟨vq13, σq13⟩, hq13, h⟩ := px_bind h
        dsimp only at h
        refine Exists.intro 0 (Exists.intro vq13 (Exists.intro σq13 (And.intro (Nat.le_of_ble_eq_true rfl) (And.intro (ok_M_hasOpenSum_84 hq13) ?_))))
        rcases px_ite h with ⟨c14, h⟩ | ⟨c14, h⟩
        · refine And.intro (fun _ => ?_) (fun hn => absurd c14 hn)
          refine H [((29, 2, 0, 0, []), 0)] 138 _ _ _ (by decide +kernel) ?_
          exact ok_M_readsSum_84_p138 H _ _ h
        · refine And.intro (fun hp => absurd hp c14) (fun _ => ?_)
          obtain ⟨⟨vq15, σq15⟩, hq15, h⟩ := px_bind h
          dsimp only at h
          refine Exists.intro 1 (Exists.intro vq15 (Exists.intro σq15 (And.intro (Nat.le_of_ble_eq_true rfl) (And.intro (ok_M_closesSums_84 hq15) ?_))))
          exact ih _ _ h
      · refine And.intro (fun _ => ?_) (fun hn => absurd c7 hn)
        refine H [((29, 2, 0, 0, []), 0)] 138 _ _ _ (by decide +kernel) ?_
        exact ok_M_readsSum_84_p138 H _ _ h
    · refine And.intro (fun hp => absurd hp c5) (fun _ => ?_)
      rcases px_ite h with ⟨c16, h⟩ | ⟨c16, h⟩
      · refine And.intro (fun _ => ?_) (fun hn => absurd c16 hn)
        refine H [((0, 0, 0, 0, []), 1)] 37 _ _ _ (by decide +kernel) ?_
        exact ok_M_readsSum_84_p38 H ih _ _ _ _ h
      · refine And.intro (fun hp => absurd hp c16) (fun _ => ?_)
        exact ok_M_readsSum_84_p38 H ih _ _ _ _ h
theorem ok_M_readsSum_84_w {l : Launch} {rv : Int} {rσ : pS} {G : Nat → pL → List pV → pS → Prop} (H : px_R l 4 146 rv rσ G) : ∀ (σ : pS), f_M_readsSum_84  σ = some (rv, rσ) → G 0 [some (.inr 84), none, none] [] σ := by
  intro  σ h
  unfold f_M_readsSum_84 at h
  refine H [((2, 0, 0, 0, []), 1), ((16, 84, 25, 0, []), 3), ((3, 1, 0, 0, []), 1), ((2, 0, 0, 0, []), 1), ((23, 147, 0, 1, [(0, 84)]), 3), ((14, 1, 14, 0, []), 3), ((0, 0, 0, 0, []), 1), ((27, 1, 0, 0, []), 1)] 0 _ _ _ (by decide +kernel) ?_
  obtain ⟨⟨vq1, σq1⟩, hq1, h⟩ := px_bind h
  dsimp only at h
  refine Exists.intro 3 (Exists.intro vq1 (Exists.intro σq1 (And.intro (Nat.le_of_ble_eq_true rfl) (And.intro (ok_M_readsFactor_84 hq1) ?_))))
  rcases px_ite h with ⟨c2, h⟩ | ⟨c2, h⟩
  · refine And.intro (fun hp => absurd c2 hp) (fun _ => ?_)
    refine And.intro (show (0 : Int) ≤ 0 ∧ (0 : Int) ≤ 1 from by decide) ?_
    exact Prod.mk.inj (Option.some.inj h)
  · refine And.intro (fun _ => ?_) (fun hn => absurd c2 hn)
    exact ok_M_readsSum_84_p14 H _ _ _ h
theorem ok_M_readsSum_84 {l : Launch} {σ : pS} {v : Int} {σ1 : pS} (h : f_M_readsSum_84  σ = some (v, σ1)) : Con l 4 146 [.inr 84] σ v σ1 := Con_mk 1 3 rfl (by decide +kernel) (fun _ H => ok_M_readsSum_84_w H  _ h)
theorem ok_M_endsPiece_84_p0 {l : Launch} {rv : Int} {rσ : pS} {G : Nat → pL → List pV → pS → Prop} (H : px_R l 1 159 rv rσ G) : ∀ (n : Nat) (σ : pS), f_M_endsPiece_84_p0 n  σ = some (rv, rσ) → G 0 [some (.inr 84)] [] σ := by
  intro n
  induction n with
  | zero =>
    intro  σ h
    unfold f_M_endsPiece_84_p0 at h
    cases h
  | succ n ih =>
    intro  σ h
    unfold f_M_endsPiece_84_p0 at h
    refine H [((2, 0, 0, 0, []), 1), ((23, 155, 0, 1, [(0, 84)]), 3), ((0, 0, 0, 10, []), 2), ((13, 1, 39, 0, []), 3), ((2, 0, 0, 0, []), 1), ((0, 0, 0, 10, []), 2), ((0, 0, 0, 0, []), 1), ((23, 151, 2, 0, [(0, 84)]), 3), ((2, 0, 0, 0, []), 1), ((2, 0, 0, 0, []), 1), ((16, 84, 25, 0, []), 3), ((0, 0, 0, 1, []), 1), ((6, 1, 0, 0, []), 1), ((18, 84, 25, 0, []), 3), ((2, 0, 0, 0, []), 1), ((2, 0, 0, 0, []), 1), ((16, 84, 23, 0, []), 3), ((0, 0, 0, 1, []), 1), ((6, 1, 0, 0, []), 1), ((18, 84, 23, 0, []), 3), ((12, 0, 0, 0, []), 3)] 0 _ _ _ (by decide +kernel) ?_
    obtain ⟨⟨vq1, σq1⟩, hq1, h⟩ := px_bind h
    dsimp only at h
    refine Exists.intro 0 (Exists.intro vq1 (Exists.intro σq1 (And.intro (Nat.le_of_ble_eq_true rfl) (And.intro (ok_M_waitTop_84 hq1) ?_))))
    rcases px_ite h with ⟨c2, h⟩ | ⟨c2, h⟩
    · refine And.intro (fun hp => absurd c2 hp) (fun _ => ?_)
      obtain ⟨⟨vq3, σq3⟩, hq3, h⟩ := px_bind h
      dsimp only at h
      refine Exists.intro 0 (Exists.intro vq3 (Exists.intro σq3 (And.intro (Nat.le_of_ble_eq_true rfl) (And.intro (ok_M_notes_84 hq3) ?_))))
      exact ih  _ h
    · refine And.intro (fun _ => ?_) (fun hn => absurd c2 hn)
      refine H [((28, 0, 0, 0, []), 1)] 39 _ _ _ (by decide +kernel) ?_
      exact (Prod.mk.inj (Option.some.inj h)).2
theorem ok_M_endsPiece_84_w {l : Launch} {rv : Int} {rσ : pS} {G : Nat → pL → List pV → pS → Prop} (H : px_R l 1 159 rv rσ G) : ∀ (σ : pS), f_M_endsPiece_84  σ = some (rv, rσ) → G 0 [some (.inr 84)] [] σ := by
  intro  σ h
  unfold f_M_endsPiece_84 at h
  refine H [] 0 _ _ _ (by decide +kernel) ?_
  exact ok_M_endsPiece_84_p0 H _  _ h
theorem ok_M_endsPiece_84 {l : Launch} {σ : pS} {v : Int} {σ1 : pS} (h : f_M_endsPiece_84  σ = some (v, σ1)) : Con l 1 159 [.inr 84] σ v σ1 := Con_mk 1 1 rfl (by decide +kernel) (fun _ H => ok_M_endsPiece_84_w H  _ h)
theorem ok_M_readsCompared_84_p52 {l : Launch} {rv : Int} {rσ : pS} {G : Nat → pL → List pV → pS → Prop} (H : px_R l 5 158 rv rσ G) : ∀ (s0 : Int) (σ : pS), f_M_readsCompared_84_p52 s0 σ = some (rv, rσ) → G 52 [some (.inr 84), none] [.inl s0] σ := by
  intro s0 σ h
  unfold f_M_readsCompared_84_p52 at h
  refine H [((3, 1, 0, 0, []), 1), ((1, 1, 0, 0, []), 1), ((0, 0, 0, (-1), []), 1), ((13, 1, 68, 0, []), 3), ((2, 0, 0, 0, []), 1), ((0, 0, 0, 1, []), 1), ((2, 0, 0, 0, []), 1), ((16, 84, 19, 0, []), 3), ((23, 145, 2, 1, [(0, 84)]), 3), ((27, 1, 0, 0, []), 1)] 52 _ _ _ (by decide +kernel) ?_
  rcases px_ite h with ⟨c9, h⟩ | ⟨c9, h⟩
  · refine And.intro (fun hp => absurd c9 hp) (fun _ => ?_)
    obtain ⟨⟨vq14, σq14⟩, hq14, h⟩ := px_bind h
    dsimp only at h
    refine Exists.intro 0 (Exists.intro vq14 (Exists.intro σq14 (And.intro (Nat.le_of_ble_eq_true rfl) (And.intro (ok_M_wrongAt_84 hq14) ?_))))
    obtain ⟨g15, h⟩ := px_gd h
    refine And.intro g15 ?_
    exact Prod.mk.inj (Option.some.inj h)
  · refine And.intro (fun _ => ?_) (fun hn => absurd c9 hn)
    refine H [((2, 0, 0, 0, []), 1), ((2, 0, 0, 0, []), 1), ((16, 84, 19, 0, []), 3), ((0, 0, 0, 1, []), 1), ((6, 0, 0, 0, []), 1), ((18, 84, 19, 0, []), 3), ((2, 0, 0, 0, []), 1), ((23, 146, 0, 1, [(0, 84)]), 3), ((14, 1, 87, 0, []), 3), ((0, 0, 0, 0, []), 1), ((27, 1, 0, 0, []), 1)] 68 _ _ _ (by decide +kernel) ?_
    obtain ⟨⟨vq10, σq10⟩, hq10, h⟩ := px_bind h
    dsimp only at h
    refine Exists.intro 4 (Exists.intro vq10 (Exists.intro σq10 (And.intro (Nat.le_of_ble_eq_true rfl) (And.intro (ok_M_readsSum_84 hq10) ?_))))
    rcases px_ite h with ⟨c11, h⟩ | ⟨c11, h⟩
    · refine And.intro (fun hp => absurd c11 hp) (fun _ => ?_)
      refine And.intro (show (0 : Int) ≤ 0 ∧ (0 : Int) ≤ 1 from by decide) ?_
      exact Prod.mk.inj (Option.some.inj h)
    · refine And.intro (fun _ => ?_) (fun hn => absurd c11 hn)
      refine H [((2, 0, 0, 0, []), 1), ((1, 1, 0, 0, []), 1), ((0, 0, 0, 0, []), 1), ((23, 151, 2, 0, [(0, 84)]), 3), ((2, 0, 0, 0, []), 1), ((23, 159, 0, 0, [(0, 84)]), 3), ((0, 0, 0, 1, []), 1), ((27, 1, 0, 0, []), 1)] 87 _ _ _ (by decide +kernel) ?_
      obtain ⟨⟨vq12, σq12⟩, hq12, h⟩ := px_bind h
      dsimp only at h
      refine Exists.intro 0 (Exists.intro vq12 (Exists.intro σq12 (And.intro (Nat.le_of_ble_eq_true rfl) (And.intro (ok_M_notes_84 hq12) ?_))))
      obtain ⟨⟨vq13, σq13⟩, hq13, h⟩ := px_bind h
      dsimp only at h
      refine Exists.intro 1 (Exists.intro vq13 (Exists.intro σq13 (And.intro (Nat.le_of_ble_eq_true rfl) (And.intro (ok_M_endsPiece_84 hq13) ?_))))
      refine And.intro (show (0 : Int) ≤ 1 ∧ (1 : Int) ≤ 1 from by decide) ?_
      exact Prod.mk.inj (Option.some.inj h)
theorem ok_M_readsCompared_84_w {l : Launch} {rv : Int} {rσ : pS} {G : Nat → pL → List pV → pS → Prop} (H : px_R l 5 158 rv rσ G) : ∀ (σ : pS), f_M_readsCompared_84  σ = some (rv, rσ) → G 0 [some (.inr 84), none] [] σ := by
  intro  σ h
  unfold f_M_readsCompared_84 at h
  refine H [((2, 0, 0, 0, []), 1), ((23, 146, 0, 1, [(0, 84)]), 3), ((14, 1, 9, 0, []), 3), ((0, 0, 0, 0, []), 1), ((27, 1, 0, 0, []), 1)] 0 _ _ _ (by decide +kernel) ?_
  obtain ⟨⟨vq1, σq1⟩, hq1, h⟩ := px_bind h
  dsimp only at h
  refine Exists.intro 4 (Exists.intro vq1 (Exists.intro σq1 (And.intro (Nat.le_of_ble_eq_true rfl) (And.intro (ok_M_readsSum_84 hq1) ?_))))
  rcases px_ite h with ⟨c2, h⟩ | ⟨c2, h⟩
  · refine And.intro (fun hp => absurd c2 hp) (fun _ => ?_)
    refine And.intro (show (0 : Int) ≤ 0 ∧ (0 : Int) ≤ 1 from by decide) ?_
    exact Prod.mk.inj (Option.some.inj h)
  · refine And.intro (fun _ => ?_) (fun hn => absurd c2 hn)
    refine H [((2, 0, 0, 0, []), 1), ((23, 144, 0, 1, [(0, 84)]), 3), ((0, 0, 0, 60, []), 2), ((13, 1, 23, 0, []), 3), ((0, 0, 0, 7, []), 2), ((12, 0, 52, 0, []), 3)] 9 _ _ _ (by decide +kernel) ?_
    obtain ⟨⟨vq3, σq3⟩, hq3, h⟩ := px_bind h
    dsimp only at h
    refine Exists.intro 0 (Exists.intro vq3 (Exists.intro σq3 (And.intro (Nat.le_of_ble_eq_true rfl) (And.intro (ok_M_here_84 hq3) ?_))))
    rcases px_ite h with ⟨c4, h⟩ | ⟨c4, h⟩
    · refine And.intro (fun hp => absurd c4 hp) (fun _ => ?_)
      exact ok_M_readsCompared_84_p52 H _ _ h
    · refine And.intro (fun _ => ?_) (fun hn => absurd c4 hn)
      refine H [((2, 0, 0, 0, []), 1), ((23, 144, 0, 1, [(0, 84)]), 3), ((0, 0, 0, 62, []), 2), ((13, 1, 37, 0, []), 3), ((0, 0, 0, 8, []), 2), ((12, 0, 52, 0, []), 3)] 23 _ _ _ (by decide +kernel) ?_
      obtain ⟨⟨vq5, σq5⟩, hq5, h⟩ := px_bind h
      dsimp only at h
      refine Exists.intro 0 (Exists.intro vq5 (Exists.intro σq5 (And.intro (Nat.le_of_ble_eq_true rfl) (And.intro (ok_M_here_84 hq5) ?_))))
      rcases px_ite h with ⟨c6, h⟩ | ⟨c6, h⟩
      · refine And.intro (fun hp => absurd c6 hp) (fun _ => ?_)
        exact ok_M_readsCompared_84_p52 H _ _ h
      · refine And.intro (fun _ => ?_) (fun hn => absurd c6 hn)
        refine H [((2, 0, 0, 0, []), 1), ((23, 144, 0, 1, [(0, 84)]), 3), ((0, 0, 0, 61, []), 2), ((13, 1, 51, 0, []), 3), ((0, 0, 0, 9, []), 2), ((12, 0, 52, 0, []), 3)] 37 _ _ _ (by decide +kernel) ?_
        obtain ⟨⟨vq7, σq7⟩, hq7, h⟩ := px_bind h
        dsimp only at h
        refine Exists.intro 0 (Exists.intro vq7 (Exists.intro σq7 (And.intro (Nat.le_of_ble_eq_true rfl) (And.intro (ok_M_here_84 hq7) ?_))))
        rcases px_ite h with ⟨c8, h⟩ | ⟨c8, h⟩
        · refine And.intro (fun hp => absurd c8 hp) (fun _ => ?_)
          exact ok_M_readsCompared_84_p52 H _ _ h
        · refine And.intro (fun _ => ?_) (fun hn => absurd c8 hn)
          refine H [((0, 0, 0, (-1), []), 1)] 51 _ _ _ (by decide +kernel) ?_
          exact ok_M_readsCompared_84_p52 H _ _ h
theorem ok_M_readsCompared_84 {l : Launch} {σ : pS} {v : Int} {σ1 : pS} (h : f_M_readsCompared_84  σ = some (v, σ1)) : Con l 5 158 [.inr 84] σ v σ1 := Con_mk 1 2 rfl (by decide +kernel) (fun _ H => ok_M_readsCompared_84_w H  _ h)
theorem ok_M_lands_84_p22 {l : Launch} {rv : Int} {rσ : pS} {G : Nat → pL → List pV → pS → Prop} (H : px_R l 1 160 rv rσ G) {k_0 : Int → pS → Option (Int × pS)} (hk_0 : ∀ (a1 : Int) (σ : pS), k_0 a1 σ = some (rv, rσ) → G 0 [some (.inr 84), some (.inl a1), none] [] σ) : ∀ (a1 : Int) (σ : pS), f_M_lands_84_p22 k_0 a1 σ = some (rv, rσ) → G 22 [some (.inr 84), some (.inl a1), none] [] σ := by
  intro a1 σ h
  unfold f_M_lands_84_p22 at h
  refine H [((2, 0, 0, 0, []), 1), ((17, 84, 98, 0, []), 3), ((2, 0, 0, 0, []), 1), ((16, 84, 25, 0, []), 3), ((0, 0, 0, 1, []), 1), ((6, 1, 0, 0, []), 1), ((19, 98, 260, 0, []), 1), ((0, 0, 0, 1048576, []), 2), ((7, 1, 0, 0, []), 1), ((3, 2, 0, 0, []), 1), ((2, 0, 0, 0, []), 1), ((17, 84, 97, 0, []), 3), ((1, 2, 0, 0, []), 1), ((0, 0, 0, 1048576, []), 2), ((2, 0, 0, 0, []), 1), ((17, 84, 97, 0, []), 3), ((1, 2, 0, 0, []), 1), ((19, 97, 260, 0, []), 1), ((0, 0, 0, 1048576, []), 2), ((7, 0, 0, 0, []), 1), ((6, 2, 0, 0, []), 1), ((2, 0, 0, 0, []), 1), ((16, 84, 24, 0, []), 3), ((6, 0, 0, 0, []), 1), ((20, 97, 260, 0, []), 1), ((2, 0, 0, 0, []), 1), ((2, 0, 0, 0, []), 1), ((16, 84, 25, 0, []), 3), ((0, 0, 0, 1, []), 1), ((6, 1, 0, 0, []), 1), ((18, 84, 25, 0, []), 3), ((12, 0, 0, 0, []), 3), ((29, 2, 0, 0, []), 0)] 22 _ _ _ (by decide +kernel) ?_
  obtain ⟨g3, h⟩ := px_gd h
  refine And.intro g3 ?_
  refine And.intro (show (1048576 : Int) ≠ 0 from by decide) (fun r4 hr4 => ?_)
  replace hr4 : r4 = pRem (σ 98 (pw ((σ 84 25) - 1)).toNat) 1048576 := hr4.trans (px_dr_1 _ _)
  try rw [← hr4] at h
  obtain ⟨g5, h⟩ := px_gd h
  refine And.intro g5 ?_
  refine And.intro (show (1048576 : Int) ≠ 0 from by decide) (fun r6 hr6 => ?_)
  replace hr6 : r6 = pDiv (σ 97 r4.toNat) 1048576 := hr6.trans (px_dr_0 _ _)
  try rw [← hr6] at h
  obtain ⟨g7, h⟩ := px_gd h
  refine And.intro g7 ?_
  exact hk_0 _ _ h
theorem ok_M_lands_84_p0 {l : Launch} {rv : Int} {rσ : pS} {G : Nat → pL → List pV → pS → Prop} (H : px_R l 1 160 rv rσ G) : ∀ (n : Nat) (a1 : Int) (σ : pS), f_M_lands_84_p0 n a1 σ = some (rv, rσ) → G 0 [some (.inr 84), some (.inl a1), none] [] σ := by
  intro n
  induction n with
  | zero =>
    intro a1 σ h
    unfold f_M_lands_84_p0 at h
    cases h
  | succ n ih =>
    intro a1 σ h
    unfold f_M_lands_84_p0 at h
    refine H [((2, 0, 0, 0, []), 1), ((23, 155, 0, 1, [(0, 84)]), 3), ((0, 0, 0, 11, []), 2), ((13, 0, 22, 0, []), 3), ((1, 1, 0, 0, []), 1), ((14, 0, 73, 0, []), 3), ((2, 0, 0, 0, []), 1), ((23, 155, 0, 1, [(0, 84)]), 3), ((0, 0, 0, 12, []), 2), ((13, 1, 73, 0, []), 3)] 0 _ _ _ (by decide +kernel) ?_
    obtain ⟨⟨vq1, σq1⟩, hq1, h⟩ := px_bind h
    dsimp only at h
    refine Exists.intro 0 (Exists.intro vq1 (Exists.intro σq1 (And.intro (Nat.le_of_ble_eq_true rfl) (And.intro (ok_M_waitTop_84 hq1) ?_))))
    rcases px_ite h with ⟨c2, h⟩ | ⟨c2, h⟩
    · refine And.intro (fun _ => ?_) (fun hn => absurd c2 hn)
      exact ok_M_lands_84_p22 H ih _ _ h
    · refine And.intro (fun hp => absurd hp c2) (fun _ => ?_)
      rcases px_ite h with ⟨c8, h⟩ | ⟨c8, h⟩
      · refine And.intro (fun _ => ?_) (fun hn => absurd c8 hn)
        refine H [((28, 0, 0, 0, []), 1)] 73 _ _ _ (by decide +kernel) ?_
        exact (Prod.mk.inj (Option.some.inj h)).2
      · refine And.intro (fun hp => absurd hp c8) (fun _ => ?_)
        obtain ⟨⟨vq9, σq9⟩, hq9, h⟩ := px_bind h
        dsimp only at h
        refine Exists.intro 0 (Exists.intro vq9 (Exists.intro σq9 (And.intro (Nat.le_of_ble_eq_true rfl) (And.intro (ok_M_waitTop_84 hq9) ?_))))
        rcases px_ite h with ⟨c10, h⟩ | ⟨c10, h⟩
        · refine And.intro (fun hp => absurd c10 hp) (fun _ => ?_)
          exact ok_M_lands_84_p22 H ih _ _ h
        · refine And.intro (fun _ => ?_) (fun hn => absurd c10 hn)
          refine H [((28, 0, 0, 0, []), 1)] 73 _ _ _ (by decide +kernel) ?_
          exact (Prod.mk.inj (Option.some.inj h)).2
theorem ok_M_lands_84_w {l : Launch} {rv : Int} {rσ : pS} {G : Nat → pL → List pV → pS → Prop} (H : px_R l 1 160 rv rσ G) : ∀ (a1 : Int) (σ : pS), f_M_lands_84 a1 σ = some (rv, rσ) → G 0 [some (.inr 84), some (.inl a1), none] [] σ := by
  intro a1 σ h
  unfold f_M_lands_84 at h
  refine H [] 0 _ _ _ (by decide +kernel) ?_
  exact ok_M_lands_84_p0 H _ _ _ h
theorem ok_M_lands_84 {l : Launch} {a1 : Int} {σ : pS} {v : Int} {σ1 : pS} (h : f_M_lands_84 a1 σ = some (v, σ1)) : Con l 1 160 [.inr 84, .inl a1] σ v σ1 := Con_mk 2 3 rfl (by decide +kernel) (fun _ H => ok_M_lands_84_w H _ _ h)
theorem ok_M_jumps_84_w {l : Launch} {rv : Int} {rσ : pS} {G : Nat → pL → List pV → pS → Prop} (H : px_R l 1 161 rv rσ G) : ∀ (a1 : Int) (σ : pS), f_M_jumps_84 a1 σ = some (rv, rσ) → G 0 [some (.inr 84), some (.inl a1)] [] σ := by
  intro a1 σ h
  unfold f_M_jumps_84 at h
  refine H [((2, 0, 0, 0, []), 1), ((17, 84, 98, 0, []), 3), ((2, 0, 0, 0, []), 1), ((16, 84, 25, 0, []), 3), ((0, 0, 0, 1048576, []), 2), ((1, 1, 0, 0, []), 1), ((6, 2, 0, 0, []), 1), ((2, 0, 0, 0, []), 1), ((16, 84, 24, 0, []), 3), ((6, 0, 0, 0, []), 1), ((20, 98, 260, 0, []), 1), ((2, 0, 0, 0, []), 1), ((2, 0, 0, 0, []), 1), ((16, 84, 25, 0, []), 3), ((0, 0, 0, 1, []), 1), ((6, 0, 0, 0, []), 1), ((18, 84, 25, 0, []), 3), ((2, 0, 0, 0, []), 1), ((1, 1, 0, 0, []), 1), ((0, 0, 0, 0, []), 1), ((23, 151, 2, 0, [(0, 84)]), 3), ((2, 0, 0, 0, []), 1), ((2, 0, 0, 0, []), 1), ((16, 84, 19, 0, []), 3), ((0, 0, 0, 1, []), 1), ((6, 0, 0, 0, []), 1), ((18, 84, 19, 0, []), 3), ((28, 0, 0, 0, []), 1)] 0 _ _ _ (by decide +kernel) ?_
  obtain ⟨g1, h⟩ := px_gd h
  refine And.intro g1 ?_
  obtain ⟨⟨vq2, σq2⟩, hq2, h⟩ := px_bind h
  dsimp only at h
  refine Exists.intro 0 (Exists.intro vq2 (Exists.intro σq2 (And.intro (Nat.le_of_ble_eq_true rfl) (And.intro (ok_M_notes_84 hq2) ?_))))
  exact (Prod.mk.inj (Option.some.inj h)).2
theorem ok_M_jumps_84 {l : Launch} {a1 : Int} {σ : pS} {v : Int} {σ1 : pS} (h : f_M_jumps_84 a1 σ = some (v, σ1)) : Con l 1 161 [.inr 84, .inl a1] σ v σ1 := Con_mk 2 2 rfl (by decide +kernel) (fun _ H => ok_M_jumps_84_w H _ _ h)
theorem ok_M_readsCondition_84_p75 {l : Launch} {rv : Int} {rσ : pS} {G : Nat → pL → List pV → pS → Prop} (H : px_R l 6 157 rv rσ G) {k_40 : pS → Option (Int × pS)} (hk_40 : ∀ (σ : pS), k_40  σ = some (rv, rσ) → G 40 [some (.inr 84)] [] σ) : ∀ (s0 : Int) (σ : pS), f_M_readsCondition_84_p75 k_40 s0 σ = some (rv, rσ) → G 75 [some (.inr 84)] [.inl s0, .inr 84] σ := by
  intro s0 σ h
  unfold f_M_readsCondition_84_p75 at h
  refine H [((23, 148, 1, 1, [(0, 84)]), 3), ((14, 1, 40, 0, []), 3), ((0, 0, 0, 0, []), 1), ((27, 1, 0, 0, []), 1)] 75 _ _ _ (by decide +kernel) ?_
  obtain ⟨⟨vq9, σq9⟩, hq9, h⟩ := px_bind h
  dsimp only at h
  refine Exists.intro 1 (Exists.intro vq9 (Exists.intro σq9 (And.intro (Nat.le_of_ble_eq_true rfl) (And.intro (ok_M_opens_84 hq9) ?_))))
  rcases px_ite h with ⟨c10, h⟩ | ⟨c10, h⟩
  · refine And.intro (fun hp => absurd c10 hp) (fun _ => ?_)
    refine And.intro (show (0 : Int) ≤ 0 ∧ (0 : Int) ≤ 1 from by decide) ?_
    exact Prod.mk.inj (Option.some.inj h)
  · refine And.intro (fun _ => ?_) (fun hn => absurd c10 hn)
    exact hk_40  _ h
theorem ok_M_readsCondition_84_p58 {l : Launch} {rv : Int} {rσ : pS} {G : Nat → pL → List pV → pS → Prop} (H : px_R l 6 157 rv rσ G) {k_40 : pS → Option (Int × pS)} (hk_40 : ∀ (σ : pS), k_40  σ = some (rv, rσ) → G 40 [some (.inr 84)] [] σ) : ∀ (σ : pS), f_M_readsCondition_84_p58 k_40  σ = some (rv, rσ) → G 58 [some (.inr 84)] [] σ := by
  intro  σ h
  unfold f_M_readsCondition_84_p58 at h
  refine H [((2, 0, 0, 0, []), 1), ((2, 0, 0, 0, []), 1), ((23, 144, 0, 1, [(0, 84)]), 3), ((0, 0, 0, 33, []), 2), ((13, 1, 73, 0, []), 3), ((0, 0, 0, 10, []), 2), ((12, 0, 75, 0, []), 3)] 58 _ _ _ (by decide +kernel) ?_
  obtain ⟨⟨vq7, σq7⟩, hq7, h⟩ := px_bind h
  dsimp only at h
  refine Exists.intro 0 (Exists.intro vq7 (Exists.intro σq7 (And.intro (Nat.le_of_ble_eq_true rfl) (And.intro (ok_M_here_84 hq7) ?_))))
  rcases px_ite h with ⟨c8, h⟩ | ⟨c8, h⟩
  · refine And.intro (fun hp => absurd c8 hp) (fun _ => ?_)
    exact ok_M_readsCondition_84_p75 H hk_40 _ _ h
  · refine And.intro (fun _ => ?_) (fun hn => absurd c8 hn)
    refine H [((0, 0, 0, 13, []), 2)] 73 _ _ _ (by decide +kernel) ?_
    exact ok_M_readsCondition_84_p75 H hk_40 _ _ h
theorem ok_M_readsCondition_84_p215 {l : Launch} {rv : Int} {rσ : pS} {G : Nat → pL → List pV → pS → Prop} (H : px_R l 6 157 rv rσ G) {k_40 : pS → Option (Int × pS)} (hk_40 : ∀ (σ : pS), k_40  σ = some (rv, rσ) → G 40 [some (.inr 84)] [] σ) : ∀ (s0 : Int) (σ : pS), f_M_readsCondition_84_p215 k_40 s0 σ = some (rv, rσ) → G 215 [some (.inr 84)] [.inl s0, .inr 84] σ := by
  intro s0 σ h
  unfold f_M_readsCondition_84_p215 at h
  refine H [((23, 161, 1, 0, [(0, 84)]), 3), ((12, 0, 40, 0, []), 3)] 215 _ _ _ (by decide +kernel) ?_
  obtain ⟨⟨vq24, σq24⟩, hq24, h⟩ := px_bind h
  dsimp only at h
  refine Exists.intro 1 (Exists.intro vq24 (Exists.intro σq24 (And.intro (Nat.le_of_ble_eq_true rfl) (And.intro (ok_M_jumps_84 hq24) ?_))))
  exact hk_40  _ h
theorem ok_M_readsCondition_84_p195 {l : Launch} {rv : Int} {rσ : pS} {G : Nat → pL → List pV → pS → Prop} (H : px_R l 6 157 rv rσ G) {k_40 : pS → Option (Int × pS)} (hk_40 : ∀ (σ : pS), k_40  σ = some (rv, rσ) → G 40 [some (.inr 84)] [] σ) : ∀ (s0 : Int) (σ : pS), f_M_readsCondition_84_p195 k_40 s0 σ = some (rv, rσ) → G 195 [some (.inr 84)] [.inl s0, .inr 84] σ := by
  intro s0 σ h
  unfold f_M_readsCondition_84_p195 at h
  refine H [((23, 160, 1, 0, [(0, 84)]), 3), ((2, 0, 0, 0, []), 1), ((2, 0, 0, 0, []), 1), ((23, 144, 0, 1, [(0, 84)]), 3), ((0, 0, 0, 38, []), 2), ((13, 1, 213, 0, []), 3), ((0, 0, 0, 11, []), 2), ((12, 0, 215, 0, []), 3)] 195 _ _ _ (by decide +kernel) ?_
  obtain ⟨⟨vq21, σq21⟩, hq21, h⟩ := px_bind h
  dsimp only at h
  refine Exists.intro 1 (Exists.intro vq21 (Exists.intro σq21 (And.intro (Nat.le_of_ble_eq_true rfl) (And.intro (ok_M_lands_84 hq21) ?_))))
  obtain ⟨⟨vq22, σq22⟩, hq22, h⟩ := px_bind h
  dsimp only at h
  refine Exists.intro 0 (Exists.intro vq22 (Exists.intro σq22 (And.intro (Nat.le_of_ble_eq_true rfl) (And.intro (ok_M_here_84 hq22) ?_))))
  rcases px_ite h with ⟨c23, h⟩ | ⟨c23, h⟩
  · refine And.intro (fun hp => absurd c23 hp) (fun _ => ?_)
    exact ok_M_readsCondition_84_p215 H hk_40 _ _ h
  · refine And.intro (fun _ => ?_) (fun hn => absurd c23 hn)
    refine H [((0, 0, 0, 12, []), 2)] 213 _ _ _ (by decide +kernel) ?_
    exact ok_M_readsCondition_84_p215 H hk_40 _ _ h
theorem ok_M_readsCondition_84_p180 {l : Launch} {rv : Int} {rσ : pS} {G : Nat → pL → List pV → pS → Prop} (H : px_R l 6 157 rv rσ G) {k_40 : pS → Option (Int × pS)} (hk_40 : ∀ (σ : pS), k_40  σ = some (rv, rσ) → G 40 [some (.inr 84)] [] σ) : ∀ (σ : pS), f_M_readsCondition_84_p180 k_40  σ = some (rv, rσ) → G 180 [some (.inr 84)] [] σ := by
  intro  σ h
  unfold f_M_readsCondition_84_p180 at h
  refine H [((2, 0, 0, 0, []), 1), ((2, 0, 0, 0, []), 1), ((23, 144, 0, 1, [(0, 84)]), 3), ((0, 0, 0, 124, []), 2), ((13, 1, 194, 0, []), 3), ((0, 0, 0, 1, []), 1), ((12, 0, 195, 0, []), 3)] 180 _ _ _ (by decide +kernel) ?_
  obtain ⟨⟨vq19, σq19⟩, hq19, h⟩ := px_bind h
  dsimp only at h
  refine Exists.intro 0 (Exists.intro vq19 (Exists.intro σq19 (And.intro (Nat.le_of_ble_eq_true rfl) (And.intro (ok_M_here_84 hq19) ?_))))
  rcases px_ite h with ⟨c20, h⟩ | ⟨c20, h⟩
  · refine And.intro (fun hp => absurd c20 hp) (fun _ => ?_)
    exact ok_M_readsCondition_84_p195 H hk_40 _ _ h
  · refine And.intro (fun _ => ?_) (fun hn => absurd c20 hn)
    refine H [((0, 0, 0, 0, []), 1)] 194 _ _ _ (by decide +kernel) ?_
    exact ok_M_readsCondition_84_p195 H hk_40 _ _ h
theorem ok_M_readsCondition_84_p92 {l : Launch} {rv : Int} {rσ : pS} {G : Nat → pL → List pV → pS → Prop} (H : px_R l 6 157 rv rσ G) {k_40 : pS → Option (Int × pS)} (hk_40 : ∀ (σ : pS), k_40  σ = some (rv, rσ) → G 40 [some (.inr 84)] [] σ) : ∀ (n : Nat) (σ : pS), f_M_readsCondition_84_p92 k_40 n  σ = some (rv, rσ) → G 92 [some (.inr 84)] [] σ := by
  intro n
  induction n with
  | zero =>
    intro  σ h
    unfold f_M_readsCondition_84_p92 at h
    cases h
  | succ n ih =>
    intro  σ h
    unfold f_M_readsCondition_84_p92 at h
    refine H [((2, 0, 0, 0, []), 1), ((23, 144, 0, 1, [(0, 84)]), 3), ((0, 0, 0, 41, []), 2), ((13, 1, 152, 0, []), 3), ((2, 0, 0, 0, []), 1), ((0, 0, 0, 1, []), 1), ((23, 160, 1, 0, [(0, 84)]), 3), ((2, 0, 0, 0, []), 1), ((2, 0, 0, 0, []), 1), ((16, 84, 25, 0, []), 3), ((0, 0, 0, 1, []), 1), ((6, 1, 0, 0, []), 1), ((18, 84, 25, 0, []), 3), ((2, 0, 0, 0, []), 1), ((2, 0, 0, 0, []), 1), ((16, 84, 23, 0, []), 3), ((0, 0, 0, 1, []), 1), ((6, 1, 0, 0, []), 1), ((18, 84, 23, 0, []), 3), ((2, 0, 0, 0, []), 1), ((2, 0, 0, 0, []), 1), ((16, 84, 19, 0, []), 3), ((0, 0, 0, 1, []), 1), ((6, 0, 0, 0, []), 1), ((18, 84, 19, 0, []), 3), ((2, 0, 0, 0, []), 1), ((16, 84, 25, 0, []), 3), ((14, 1, 145, 0, []), 3), ((0, 0, 0, 1, []), 1), ((27, 1, 0, 0, []), 1)] 92 _ _ _ (by decide +kernel) ?_
    obtain ⟨⟨vq15, σq15⟩, hq15, h⟩ := px_bind h
    dsimp only at h
    refine Exists.intro 0 (Exists.intro vq15 (Exists.intro σq15 (And.intro (Nat.le_of_ble_eq_true rfl) (And.intro (ok_M_here_84 hq15) ?_))))
    rcases px_ite h with ⟨c16, h⟩ | ⟨c16, h⟩
    · refine And.intro (fun hp => absurd c16 hp) (fun _ => ?_)
      obtain ⟨⟨vq29, σq29⟩, hq29, h⟩ := px_bind h
      dsimp only at h
      refine Exists.intro 1 (Exists.intro vq29 (Exists.intro σq29 (And.intro (Nat.le_of_ble_eq_true rfl) (And.intro (ok_M_lands_84 hq29) ?_))))
      rcases px_ite h with ⟨c30, h⟩ | ⟨c30, h⟩
      · refine And.intro (fun hp => absurd c30 hp) (fun _ => ?_)
        refine And.intro (show (0 : Int) ≤ 1 ∧ (1 : Int) ≤ 1 from by decide) ?_
        exact Prod.mk.inj (Option.some.inj h)
      · refine And.intro (fun _ => ?_) (fun hn => absurd c30 hn)
        refine H [((2, 0, 0, 0, []), 1), ((23, 159, 0, 0, [(0, 84)]), 3), ((12, 0, 92, 0, []), 3)] 145 _ _ _ (by decide +kernel) ?_
        obtain ⟨⟨vq31, σq31⟩, hq31, h⟩ := px_bind h
        dsimp only at h
        refine Exists.intro 1 (Exists.intro vq31 (Exists.intro σq31 (And.intro (Nat.le_of_ble_eq_true rfl) (And.intro (ok_M_endsPiece_84 hq31) ?_))))
        exact ih  _ h
    · refine And.intro (fun _ => ?_) (fun hn => absurd c16 hn)
      refine H [((2, 0, 0, 0, []), 1), ((23, 144, 0, 1, [(0, 84)]), 3), ((0, 0, 0, 38, []), 2), ((13, 0, 180, 0, []), 3), ((2, 0, 0, 0, []), 1), ((23, 144, 0, 1, [(0, 84)]), 3), ((0, 0, 0, 124, []), 2), ((13, 0, 180, 0, []), 3), ((2, 0, 0, 0, []), 1), ((0, 0, 0, 1, []), 1), ((2, 0, 0, 0, []), 1), ((16, 84, 19, 0, []), 3), ((23, 145, 2, 1, [(0, 84)]), 3), ((27, 1, 0, 0, []), 1)] 152 _ _ _ (by decide +kernel) ?_
      obtain ⟨⟨vq17, σq17⟩, hq17, h⟩ := px_bind h
      dsimp only at h
      refine Exists.intro 0 (Exists.intro vq17 (Exists.intro σq17 (And.intro (Nat.le_of_ble_eq_true rfl) (And.intro (ok_M_here_84 hq17) ?_))))
      rcases px_ite h with ⟨c18, h⟩ | ⟨c18, h⟩
      · refine And.intro (fun _ => ?_) (fun hn => absurd c18 hn)
        exact ok_M_readsCondition_84_p180 H hk_40  _ h
      · refine And.intro (fun hp => absurd hp c18) (fun _ => ?_)
        obtain ⟨⟨vq25, σq25⟩, hq25, h⟩ := px_bind h
        dsimp only at h
        refine Exists.intro 0 (Exists.intro vq25 (Exists.intro σq25 (And.intro (Nat.le_of_ble_eq_true rfl) (And.intro (ok_M_here_84 hq25) ?_))))
        rcases px_ite h with ⟨c26, h⟩ | ⟨c26, h⟩
        · refine And.intro (fun _ => ?_) (fun hn => absurd c26 hn)
          exact ok_M_readsCondition_84_p180 H hk_40  _ h
        · refine And.intro (fun hp => absurd hp c26) (fun _ => ?_)
          obtain ⟨⟨vq27, σq27⟩, hq27, h⟩ := px_bind h
          dsimp only at h
          refine Exists.intro 0 (Exists.intro vq27 (Exists.intro σq27 (And.intro (Nat.le_of_ble_eq_true rfl) (And.intro (ok_M_wrongAt_84 hq27) ?_))))
          obtain ⟨g28, h⟩ := px_gd h
          refine And.intro g28 ?_
          exact Prod.mk.inj (Option.some.inj h)
theorem ok_M_readsCondition_84_p40 {l : Launch} {rv : Int} {rσ : pS} {G : Nat → pL → List pV → pS → Prop} (H : px_R l 6 157 rv rσ G) : ∀ (n : Nat) (σ : pS), f_M_readsCondition_84_p40 n  σ = some (rv, rσ) → G 40 [some (.inr 84)] [] σ := by
  intro n
  induction n with
  | zero =>
    intro  σ h
    unfold f_M_readsCondition_84_p40 at h
    cases h
  | succ n ih =>
    intro  σ h
    unfold f_M_readsCondition_84_p40 at h
    refine H [((2, 0, 0, 0, []), 1), ((23, 144, 0, 1, [(0, 84)]), 3), ((0, 0, 0, 33, []), 2), ((13, 0, 58, 0, []), 3), ((2, 0, 0, 0, []), 1), ((23, 144, 0, 1, [(0, 84)]), 3), ((0, 0, 0, 40, []), 2), ((13, 1, 83, 0, []), 3)] 40 _ _ _ (by decide +kernel) ?_
    obtain ⟨⟨vq5, σq5⟩, hq5, h⟩ := px_bind h
    dsimp only at h
    refine Exists.intro 0 (Exists.intro vq5 (Exists.intro σq5 (And.intro (Nat.le_of_ble_eq_true rfl) (And.intro (ok_M_here_84 hq5) ?_))))
    rcases px_ite h with ⟨c6, h⟩ | ⟨c6, h⟩
    · refine And.intro (fun _ => ?_) (fun hn => absurd c6 hn)
      exact ok_M_readsCondition_84_p58 H ih  _ h
    · refine And.intro (fun hp => absurd hp c6) (fun _ => ?_)
      obtain ⟨⟨vq11, σq11⟩, hq11, h⟩ := px_bind h
      dsimp only at h
      refine Exists.intro 0 (Exists.intro vq11 (Exists.intro σq11 (And.intro (Nat.le_of_ble_eq_true rfl) (And.intro (ok_M_here_84 hq11) ?_))))
      rcases px_ite h with ⟨c12, h⟩ | ⟨c12, h⟩
      · refine And.intro (fun hp => absurd c12 hp) (fun _ => ?_)
        exact ok_M_readsCondition_84_p58 H ih  _ h
      · refine And.intro (fun _ => ?_) (fun hn => absurd c12 hn)
        refine H [((2, 0, 0, 0, []), 1), ((23, 158, 0, 1, [(0, 84)]), 3), ((14, 1, 92, 0, []), 3), ((0, 0, 0, 0, []), 1), ((27, 1, 0, 0, []), 1)] 83 _ _ _ (by decide +kernel) ?_
        obtain ⟨⟨vq13, σq13⟩, hq13, h⟩ := px_bind h
        dsimp only at h
        refine Exists.intro 5 (Exists.intro vq13 (Exists.intro σq13 (And.intro (Nat.le_of_ble_eq_true rfl) (And.intro (ok_M_readsCompared_84 hq13) ?_))))
        rcases px_ite h with ⟨c14, h⟩ | ⟨c14, h⟩
        · refine And.intro (fun hp => absurd c14 hp) (fun _ => ?_)
          refine And.intro (show (0 : Int) ≤ 0 ∧ (0 : Int) ≤ 1 from by decide) ?_
          exact Prod.mk.inj (Option.some.inj h)
        · refine And.intro (fun _ => ?_) (fun hn => absurd c14 hn)
          exact ok_M_readsCondition_84_p92 H ih _  _ h
theorem ok_M_readsCondition_84_w {l : Launch} {rv : Int} {rσ : pS} {G : Nat → pL → List pV → pS → Prop} (H : px_R l 6 157 rv rσ G) : ∀ (σ : pS), f_M_readsCondition_84  σ = some (rv, rσ) → G 0 [some (.inr 84)] [] σ := by
  intro  σ h
  unfold f_M_readsCondition_84 at h
  refine H [((2, 0, 0, 0, []), 1), ((23, 144, 0, 1, [(0, 84)]), 3), ((0, 0, 0, 40, []), 2), ((13, 0, 19, 0, []), 3), ((2, 0, 0, 0, []), 1), ((0, 0, 0, 1, []), 1), ((2, 0, 0, 0, []), 1), ((16, 84, 19, 0, []), 3), ((23, 145, 2, 1, [(0, 84)]), 3), ((27, 1, 0, 0, []), 1)] 0 _ _ _ (by decide +kernel) ?_
  obtain ⟨⟨vq1, σq1⟩, hq1, h⟩ := px_bind h
  dsimp only at h
  refine Exists.intro 0 (Exists.intro vq1 (Exists.intro σq1 (And.intro (Nat.le_of_ble_eq_true rfl) (And.intro (ok_M_here_84 hq1) ?_))))
  rcases px_ite h with ⟨c2, h⟩ | ⟨c2, h⟩
  · refine And.intro (fun _ => ?_) (fun hn => absurd c2 hn)
    refine H [((2, 0, 0, 0, []), 1), ((0, 0, 0, 0, []), 1), ((18, 84, 23, 0, []), 3), ((2, 0, 0, 0, []), 1), ((0, 0, 0, 0, []), 1), ((18, 84, 25, 0, []), 3), ((2, 0, 0, 0, []), 1), ((0, 0, 0, 13, []), 2), ((23, 148, 1, 1, [(0, 84)]), 3), ((14, 1, 40, 0, []), 3), ((0, 0, 0, 0, []), 1), ((27, 1, 0, 0, []), 1)] 19 _ _ _ (by decide +kernel) ?_
    obtain ⟨⟨vq3, σq3⟩, hq3, h⟩ := px_bind h
    dsimp only at h
    refine Exists.intro 1 (Exists.intro vq3 (Exists.intro σq3 (And.intro (Nat.le_of_ble_eq_true rfl) (And.intro (ok_M_opens_84 hq3) ?_))))
    rcases px_ite h with ⟨c4, h⟩ | ⟨c4, h⟩
    · refine And.intro (fun hp => absurd c4 hp) (fun _ => ?_)
      refine And.intro (show (0 : Int) ≤ 0 ∧ (0 : Int) ≤ 1 from by decide) ?_
      exact Prod.mk.inj (Option.some.inj h)
    · refine And.intro (fun _ => ?_) (fun hn => absurd c4 hn)
      exact ok_M_readsCondition_84_p40 H _  _ h
  · refine And.intro (fun hp => absurd hp c2) (fun _ => ?_)
    obtain ⟨⟨vq32, σq32⟩, hq32, h⟩ := px_bind h
    dsimp only at h
    refine Exists.intro 0 (Exists.intro vq32 (Exists.intro σq32 (And.intro (Nat.le_of_ble_eq_true rfl) (And.intro (ok_M_wrongAt_84 hq32) ?_))))
    obtain ⟨g33, h⟩ := px_gd h
    refine And.intro g33 ?_
    exact Prod.mk.inj (Option.some.inj h)
theorem ok_M_readsCondition_84 {l : Launch} {σ : pS} {v : Int} {σ1 : pS} (h : f_M_readsCondition_84  σ = some (v, σ1)) : Con l 6 157 [.inr 84] σ v σ1 := Con_mk 1 1 rfl (by decide +kernel) (fun _ H => ok_M_readsCondition_84_w H  _ h)
theorem ok_M_readsRule_84_p104 {l : Launch} {rv : Int} {rσ : pS} {G : Nat → pL → List pV → pS → Prop} (H : px_R l 7 143 rv rσ G) : ∀ (σ : pS), f_M_readsRule_84_p104  σ = some (rv, rσ) → G 104 [some (.inr 84), none] [] σ := by
  intro  σ h
  unfold f_M_readsRule_84_p104 at h
  refine H [((2, 0, 0, 0, []), 1), ((17, 84, 101, 0, []), 3), ((2, 0, 0, 0, []), 1), ((16, 84, 26, 0, []), 3), ((2, 0, 0, 0, []), 1), ((16, 84, 24, 0, []), 3), ((20, 101, 16, 0, []), 1), ((2, 0, 0, 0, []), 1), ((23, 157, 0, 1, [(0, 84)]), 3), ((14, 1, 126, 0, []), 3), ((0, 0, 0, 0, []), 1), ((27, 1, 0, 0, []), 1)] 104 _ _ _ (by decide +kernel) ?_
  obtain ⟨g7, h⟩ := px_gd h
  refine And.intro g7 ?_
  obtain ⟨⟨vq8, σq8⟩, hq8, h⟩ := px_bind h
  dsimp only at h
  refine Exists.intro 6 (Exists.intro vq8 (Exists.intro σq8 (And.intro (Nat.le_of_ble_eq_true rfl) (And.intro (ok_M_readsCondition_84 hq8) ?_))))
  rcases px_ite h with ⟨c9, h⟩ | ⟨c9, h⟩
  · refine And.intro (fun hp => absurd c9 hp) (fun _ => ?_)
    refine And.intro (show (0 : Int) ≤ 0 ∧ (0 : Int) ≤ 1 from by decide) ?_
    exact Prod.mk.inj (Option.some.inj h)
  · refine And.intro (fun _ => ?_) (fun hn => absurd c9 hn)
    refine H [((2, 0, 0, 0, []), 1), ((17, 84, 102, 0, []), 3), ((2, 0, 0, 0, []), 1), ((16, 84, 26, 0, []), 3), ((2, 0, 0, 0, []), 1), ((16, 84, 24, 0, []), 3), ((20, 102, 16, 0, []), 1), ((2, 0, 0, 0, []), 1), ((2, 0, 0, 0, []), 1), ((16, 84, 26, 0, []), 3), ((0, 0, 0, 1, []), 1), ((6, 0, 0, 0, []), 1), ((18, 84, 26, 0, []), 3), ((0, 0, 0, 1, []), 1), ((27, 1, 0, 0, []), 1)] 126 _ _ _ (by decide +kernel) ?_
    obtain ⟨g10, h⟩ := px_gd h
    refine And.intro g10 ?_
    refine And.intro (show (0 : Int) ≤ 1 ∧ (1 : Int) ≤ 1 from by decide) ?_
    exact Prod.mk.inj (Option.some.inj h)
theorem ok_M_readsRule_84_p27 {l : Launch} {rv : Int} {rσ : pS} {G : Nat → pL → List pV → pS → Prop} (H : px_R l 7 143 rv rσ G) : ∀ (a1 : Int) (σ : pS), f_M_readsRule_84_p27 a1 σ = some (rv, rσ) → G 27 [some (.inr 84), some (.inl a1)] [] σ := by
  intro a1 σ h
  unfold f_M_readsRule_84_p27 at h
  refine H [((2, 0, 0, 0, []), 1), ((16, 84, 26, 0, []), 3), ((0, 0, 0, 16, []), 2), ((13, 1, 46, 0, []), 3), ((2, 0, 0, 0, []), 1), ((0, 0, 0, 4, []), 1), ((2, 0, 0, 0, []), 1), ((16, 84, 19, 0, []), 3), ((23, 145, 2, 1, [(0, 84)]), 3), ((27, 1, 0, 0, []), 1)] 27 _ _ _ (by decide +kernel) ?_
  rcases px_ite h with ⟨c3, h⟩ | ⟨c3, h⟩
  · refine And.intro (fun hp => absurd c3 hp) (fun _ => ?_)
    obtain ⟨⟨vq13, σq13⟩, hq13, h⟩ := px_bind h
    dsimp only at h
    refine Exists.intro 0 (Exists.intro vq13 (Exists.intro σq13 (And.intro (Nat.le_of_ble_eq_true rfl) (And.intro (ok_M_wrongAt_84 hq13) ?_))))
    obtain ⟨g14, h⟩ := px_gd h
    refine And.intro g14 ?_
    exact Prod.mk.inj (Option.some.inj h)
  · refine And.intro (fun _ => ?_) (fun hn => absurd c3 hn)
    refine H [((2, 0, 0, 0, []), 1), ((17, 84, 99, 0, []), 3), ((2, 0, 0, 0, []), 1), ((16, 84, 26, 0, []), 3), ((1, 1, 0, 0, []), 1), ((20, 99, 16, 0, []), 1), ((2, 0, 0, 0, []), 1), ((2, 0, 0, 0, []), 1), ((16, 84, 19, 0, []), 3), ((0, 0, 0, 1, []), 1), ((6, 0, 0, 0, []), 1), ((18, 84, 19, 0, []), 3), ((2, 0, 0, 0, []), 1), ((17, 84, 100, 0, []), 3), ((2, 0, 0, 0, []), 1), ((16, 84, 26, 0, []), 3), ((2, 0, 0, 0, []), 1), ((16, 84, 24, 0, []), 3), ((20, 100, 16, 0, []), 1), ((2, 0, 0, 0, []), 1), ((0, 0, 0, 0, []), 1), ((18, 84, 23, 0, []), 3), ((2, 0, 0, 0, []), 1), ((0, 0, 0, 0, []), 1), ((18, 84, 25, 0, []), 3), ((1, 1, 0, 0, []), 1), ((0, 0, 0, 120, []), 2), ((13, 0, 104, 0, []), 3), ((2, 0, 0, 0, []), 1), ((23, 146, 0, 1, [(0, 84)]), 3), ((14, 1, 104, 0, []), 3), ((0, 0, 0, 0, []), 1), ((27, 1, 0, 0, []), 1)] 46 _ _ _ (by decide +kernel) ?_
    obtain ⟨g4, h⟩ := px_gd h
    refine And.intro g4 ?_
    obtain ⟨g5, h⟩ := px_gd h
    refine And.intro g5 ?_
    rcases px_ite h with ⟨c6, h⟩ | ⟨c6, h⟩
    · refine And.intro (fun _ => ?_) (fun hn => absurd c6 hn)
      refine H [((29, 1, 0, 0, []), 0)] 104 _ _ _ (by decide +kernel) ?_
      exact ok_M_readsRule_84_p104 H  _ h
    · refine And.intro (fun hp => absurd hp c6) (fun _ => ?_)
      obtain ⟨⟨vq11, σq11⟩, hq11, h⟩ := px_bind h
      dsimp only at h
      refine Exists.intro 4 (Exists.intro vq11 (Exists.intro σq11 (And.intro (Nat.le_of_ble_eq_true rfl) (And.intro (ok_M_readsSum_84 hq11) ?_))))
      rcases px_ite h with ⟨c12, h⟩ | ⟨c12, h⟩
      · refine And.intro (fun hp => absurd c12 hp) (fun _ => ?_)
        refine And.intro (show (0 : Int) ≤ 0 ∧ (0 : Int) ≤ 1 from by decide) ?_
        exact Prod.mk.inj (Option.some.inj h)
      · refine And.intro (fun _ => ?_) (fun hn => absurd c12 hn)
        refine H [((29, 1, 0, 0, []), 0)] 104 _ _ _ (by decide +kernel) ?_
        exact ok_M_readsRule_84_p104 H  _ h
theorem ok_M_readsRule_84_w {l : Launch} {rv : Int} {rσ : pS} {G : Nat → pL → List pV → pS → Prop} (H : px_R l 7 143 rv rσ G) : ∀ (σ : pS), f_M_readsRule_84  σ = some (rv, rσ) → G 0 [some (.inr 84), none] [] σ := by
  intro  σ h
  unfold f_M_readsRule_84 at h
  refine H [((2, 0, 0, 0, []), 1), ((23, 144, 0, 1, [(0, 84)]), 3), ((3, 1, 0, 0, []), 1), ((1, 1, 0, 0, []), 1), ((0, 0, 0, 100, []), 2), ((13, 0, 27, 0, []), 3), ((1, 1, 0, 0, []), 1), ((0, 0, 0, 120, []), 2), ((13, 0, 27, 0, []), 3), ((2, 0, 0, 0, []), 1), ((0, 0, 0, 1, []), 1), ((2, 0, 0, 0, []), 1), ((16, 84, 19, 0, []), 3), ((23, 145, 2, 1, [(0, 84)]), 3), ((27, 1, 0, 0, []), 1)] 0 _ _ _ (by decide +kernel) ?_
  obtain ⟨⟨vq1, σq1⟩, hq1, h⟩ := px_bind h
  dsimp only at h
  refine Exists.intro 0 (Exists.intro vq1 (Exists.intro σq1 (And.intro (Nat.le_of_ble_eq_true rfl) (And.intro (ok_M_here_84 hq1) ?_))))
  rcases px_ite h with ⟨c2, h⟩ | ⟨c2, h⟩
  · refine And.intro (fun _ => ?_) (fun hn => absurd c2 hn)
    exact ok_M_readsRule_84_p27 H _ _ h
  · refine And.intro (fun hp => absurd hp c2) (fun _ => ?_)
    rcases px_ite h with ⟨c15, h⟩ | ⟨c15, h⟩
    · refine And.intro (fun _ => ?_) (fun hn => absurd c15 hn)
      exact ok_M_readsRule_84_p27 H _ _ h
    · refine And.intro (fun hp => absurd hp c15) (fun _ => ?_)
      obtain ⟨⟨vq16, σq16⟩, hq16, h⟩ := px_bind h
      dsimp only at h
      refine Exists.intro 0 (Exists.intro vq16 (Exists.intro σq16 (And.intro (Nat.le_of_ble_eq_true rfl) (And.intro (ok_M_wrongAt_84 hq16) ?_))))
      obtain ⟨g17, h⟩ := px_gd h
      refine And.intro g17 ?_
      exact Prod.mk.inj (Option.some.inj h)
theorem ok_M_readsRule_84 {l : Launch} {σ : pS} {v : Int} {σ1 : pS} (h : f_M_readsRule_84  σ = some (v, σ1)) : Con l 7 143 [.inr 84] σ v σ1 := Con_mk 1 2 rfl (by decide +kernel) (fun _ H => ok_M_readsRule_84_w H  _ h)
theorem ok_M_law_84_p123 {l : Launch} {rv : Int} {rσ : pS} {G : Nat → pL → List pV → pS → Prop} (H : px_R l 8 141 rv rσ G) : ∀ (n : Nat) (a3 : Int) (σ : pS), f_M_law_84_p123 n a3 σ = some (rv, rσ) → G 123 [some (.inr 84), none, none, some (.inl a3)] [] σ := by
  intro n
  induction n with
  | zero =>
    intro a3 σ h
    unfold f_M_law_84_p123 at h
    cases h
  | succ n ih =>
    intro a3 σ h
    unfold f_M_law_84_p123 at h
    refine H [((1, 3, 0, 0, []), 1), ((2, 0, 0, 0, []), 1), ((16, 84, 26, 0, []), 3), ((13, 3, 185, 0, []), 3), ((2, 0, 0, 0, []), 1), ((17, 84, 104, 0, []), 3), ((1, 3, 0, 0, []), 1), ((2, 0, 0, 0, []), 1), ((17, 84, 99, 0, []), 3), ((1, 3, 0, 0, []), 1), ((19, 99, 16, 0, []), 1), ((20, 104, 16, 0, []), 1), ((2, 0, 0, 0, []), 1), ((17, 84, 105, 0, []), 3), ((1, 3, 0, 0, []), 1), ((2, 0, 0, 0, []), 1), ((17, 84, 100, 0, []), 3), ((1, 3, 0, 0, []), 1), ((19, 100, 16, 0, []), 1), ((20, 105, 16, 0, []), 1), ((2, 0, 0, 0, []), 1), ((17, 84, 106, 0, []), 3), ((1, 3, 0, 0, []), 1), ((2, 0, 0, 0, []), 1), ((17, 84, 101, 0, []), 3), ((1, 3, 0, 0, []), 1), ((19, 101, 16, 0, []), 1), ((20, 106, 16, 0, []), 1), ((2, 0, 0, 0, []), 1), ((17, 84, 107, 0, []), 3), ((1, 3, 0, 0, []), 1), ((2, 0, 0, 0, []), 1), ((17, 84, 102, 0, []), 3), ((1, 3, 0, 0, []), 1), ((19, 102, 16, 0, []), 1), ((20, 107, 16, 0, []), 1), ((5, 3, 0, 1, []), 3), ((12, 0, 123, 0, []), 3)] 123 _ _ _ (by decide +kernel) ?_
    rcases px_ite h with ⟨c9, h⟩ | ⟨c9, h⟩
    · refine And.intro (fun _ => ?_) (fun hn => absurd c9 hn)
      refine H [((2, 0, 0, 0, []), 1), ((16, 84, 26, 0, []), 3), ((27, 0, 0, 0, []), 1)] 185 _ _ _ (by decide +kernel) ?_
      exact Prod.mk.inj (Option.some.inj h)
    · refine And.intro (fun hp => absurd hp c9) (fun _ => ?_)
      obtain ⟨g10, h⟩ := px_gd h
      refine And.intro g10 ?_
      obtain ⟨g11, h⟩ := px_gd h
      refine And.intro g11 ?_
      obtain ⟨g12, h⟩ := px_gd h
      refine And.intro g12 ?_
      obtain ⟨g13, h⟩ := px_gd h
      refine And.intro g13 ?_
      obtain ⟨g14, h⟩ := px_gd h
      refine And.intro g14 ?_
      obtain ⟨g15, h⟩ := px_gd h
      refine And.intro g15 ?_
      obtain ⟨g16, h⟩ := px_gd h
      refine And.intro g16 ?_
      obtain ⟨g17, h⟩ := px_gd h
      refine And.intro g17 ?_
      exact ih _ _ h
theorem ok_M_law_84_p95 {l : Launch} {rv : Int} {rσ : pS} {G : Nat → pL → List pV → pS → Prop} (H : px_R l 8 141 rv rσ G) : ∀ (n : Nat) (a3 : Int) (σ : pS), f_M_law_84_p95 n a3 σ = some (rv, rσ) → G 95 [some (.inr 84), none, none, some (.inl a3)] [] σ := by
  intro n
  induction n with
  | zero =>
    intro a3 σ h
    unfold f_M_law_84_p95 at h
    cases h
  | succ n ih =>
    intro a3 σ h
    unfold f_M_law_84_p95 at h
    refine H [((1, 3, 0, 0, []), 1), ((2, 0, 0, 0, []), 1), ((16, 84, 24, 0, []), 3), ((13, 3, 121, 0, []), 3), ((2, 0, 0, 0, []), 1), ((17, 84, 103, 0, []), 3), ((1, 3, 0, 0, []), 1), ((2, 0, 0, 0, []), 1), ((17, 84, 97, 0, []), 3), ((1, 3, 0, 0, []), 1), ((19, 97, 260, 0, []), 1), ((20, 103, 260, 0, []), 1), ((5, 3, 0, 1, []), 3), ((12, 0, 95, 0, []), 3)] 95 _ _ _ (by decide +kernel) ?_
    rcases px_ite h with ⟨c8, h⟩ | ⟨c8, h⟩
    · refine And.intro (fun _ => ?_) (fun hn => absurd c8 hn)
      refine H [((0, 0, 0, 0, []), 1), ((3, 3, 0, 0, []), 1)] 121 _ _ _ (by decide +kernel) ?_
      exact ok_M_law_84_p123 H _ _ _ h
    · refine And.intro (fun hp => absurd hp c8) (fun _ => ?_)
      obtain ⟨g18, h⟩ := px_gd h
      refine And.intro g18 ?_
      obtain ⟨g19, h⟩ := px_gd h
      refine And.intro g19 ?_
      exact ih _ _ h
theorem ok_M_law_84_p71 {l : Launch} {rv : Int} {rσ : pS} {G : Nat → pL → List pV → pS → Prop} (H : px_R l 8 141 rv rσ G) : ∀ (a2 : Int) (σ : pS), f_M_law_84_p71 a2 σ = some (rv, rσ) → G 71 [some (.inr 84), none, some (.inl a2), none] [] σ := by
  intro a2 σ h
  unfold f_M_law_84_p71 at h
  refine H [((2, 0, 0, 0, []), 1), ((0, 0, 0, 0, []), 1), ((18, 84, 18, 0, []), 3), ((1, 2, 0, 0, []), 1), ((14, 1, 85, 0, []), 3), ((2, 0, 0, 0, []), 1), ((16, 84, 21, 0, []), 3), ((27, 0, 0, 0, []), 1)] 71 _ _ _ (by decide +kernel) ?_
  rcases px_ite h with ⟨c7, h⟩ | ⟨c7, h⟩
  · refine And.intro (fun hp => absurd c7 hp) (fun _ => ?_)
    exact Prod.mk.inj (Option.some.inj h)
  · refine And.intro (fun _ => ?_) (fun hn => absurd c7 hn)
    refine H [((2, 0, 0, 0, []), 1), ((2, 0, 0, 0, []), 1), ((16, 84, 26, 0, []), 3), ((18, 84, 27, 0, []), 3), ((0, 0, 0, 0, []), 1), ((3, 3, 0, 0, []), 1), ((29, 2, 0, 0, []), 0)] 85 _ _ _ (by decide +kernel) ?_
    exact ok_M_law_84_p95 H _ _ _ h
theorem ok_M_law_84_p31 {l : Launch} {rv : Int} {rσ : pS} {G : Nat → pL → List pV → pS → Prop} (H : px_R l 8 141 rv rσ G) : ∀ (n : Nat) (a2 : Int) (σ : pS), f_M_law_84_p31 n a2 σ = some (rv, rσ) → G 31 [some (.inr 84), none, some (.inl a2), none] [] σ := by
  intro n
  induction n with
  | zero =>
    intro a2 σ h
    unfold f_M_law_84_p31 at h
    cases h
  | succ n ih =>
    intro a2 σ h
    unfold f_M_law_84_p31 at h
    refine H [((1, 2, 0, 0, []), 1), ((14, 0, 71, 0, []), 3), ((2, 0, 0, 0, []), 1), ((16, 84, 19, 0, []), 3), ((2, 0, 0, 0, []), 1), ((16, 84, 20, 0, []), 3), ((13, 3, 71, 0, []), 3), ((2, 0, 0, 0, []), 1), ((0, 0, 0, 59, []), 2), ((23, 162, 1, 1, [(0, 84)]), 3), ((14, 0, 66, 0, []), 3), ((2, 0, 0, 0, []), 1), ((23, 143, 0, 1, [(0, 84)]), 3), ((14, 0, 66, 0, []), 3), ((0, 0, 0, 1, []), 1), ((12, 0, 67, 0, []), 3), ((3, 2, 0, 0, []), 1), ((12, 0, 31, 0, []), 3)] 31 _ _ _ (by decide +kernel) ?_
    rcases px_ite h with ⟨c6, h⟩ | ⟨c6, h⟩
    · refine And.intro (fun _ => ?_) (fun hn => absurd c6 hn)
      exact ok_M_law_84_p71 H _ _ h
    · refine And.intro (fun hp => absurd hp c6) (fun _ => ?_)
      rcases px_ite h with ⟨c20, h⟩ | ⟨c20, h⟩
      · refine And.intro (fun _ => ?_) (fun hn => absurd c20 hn)
        exact ok_M_law_84_p71 H _ _ h
      · refine And.intro (fun hp => absurd hp c20) (fun _ => ?_)
        obtain ⟨⟨vq21, σq21⟩, hq21, h⟩ := px_bind h
        dsimp only at h
        refine Exists.intro 1 (Exists.intro vq21 (Exists.intro σq21 (And.intro (Nat.le_of_ble_eq_true rfl) (And.intro (ok_M_takes_84 hq21) ?_))))
        rcases px_ite h with ⟨c22, h⟩ | ⟨c22, h⟩
        · refine And.intro (fun _ => ?_) (fun hn => absurd c22 hn)
          refine H [((0, 0, 0, 0, []), 1), ((3, 2, 0, 0, []), 1), ((12, 0, 31, 0, []), 3)] 66 _ _ _ (by decide +kernel) ?_
          exact ih _ _ h
        · refine And.intro (fun hp => absurd hp c22) (fun _ => ?_)
          obtain ⟨⟨vq23, σq23⟩, hq23, h⟩ := px_bind h
          dsimp only at h
          refine Exists.intro 7 (Exists.intro vq23 (Exists.intro σq23 (And.intro (Nat.le_of_ble_eq_true rfl) (And.intro (ok_M_readsRule_84 hq23) ?_))))
          rcases px_ite h with ⟨c24, h⟩ | ⟨c24, h⟩
          · refine And.intro (fun _ => ?_) (fun hn => absurd c24 hn)
            refine H [((0, 0, 0, 0, []), 1), ((3, 2, 0, 0, []), 1), ((12, 0, 31, 0, []), 3)] 66 _ _ _ (by decide +kernel) ?_
            exact ih _ _ h
          · refine And.intro (fun hp => absurd hp c24) (fun _ => ?_)
            exact ih _ _ h
theorem ok_M_law_84_w {l : Launch} {rv : Int} {rσ : pS} {G : Nat → pL → List pV → pS → Prop} (H : px_R l 8 141 rv rσ G) : ∀ (a1 : Int) (σ : pS), f_M_law_84 a1 σ = some (rv, rσ) → G 0 [some (.inr 84), some (.inl a1), none, none] [] σ := by
  intro a1 σ h
  unfold f_M_law_84 at h
  refine H [((1, 1, 0, 0, []), 1), ((0, 0, 0, 1, []), 1), ((0, 0, 0, 240, []), 3), ((24, 137, 3, 1, []), 3), ((14, 0, 19, 0, []), 3), ((1, 1, 0, 0, []), 1), ((2, 0, 0, 0, []), 1), ((16, 84, 18, 0, []), 3), ((13, 5, 21, 0, []), 3), ((0, 0, 0, (-1), []), 1), ((27, 0, 0, 0, []), 1)] 0 _ _ _ (by decide +kernel) ?_
  obtain ⟨⟨vq1, σq1⟩, hq1, h⟩ := px_bind h
  dsimp only at h
  refine Exists.intro 0 (Exists.intro vq1 (Exists.intro σq1 (And.intro (Nat.le_of_ble_eq_true rfl) (And.intro (ok_M_in hq1) ?_))))
  rcases px_ite h with ⟨c2, h⟩ | ⟨c2, h⟩
  · refine And.intro (fun _ => ?_) (fun hn => absurd c2 hn)
    refine H [((0, 0, 0, (-1), []), 1), ((27, 0, 0, 0, []), 1)] 19 _ _ _ (by decide +kernel) ?_
    exact Prod.mk.inj (Option.some.inj h)
  · refine And.intro (fun hp => absurd hp c2) (fun _ => ?_)
    rcases px_ite h with ⟨c3, h⟩ | ⟨c3, h⟩
    · refine And.intro (fun _ => ?_) (fun hn => absurd c3 hn)
      refine H [((2, 0, 0, 0, []), 1), ((1, 1, 0, 0, []), 1), ((23, 142, 1, 0, [(0, 84)]), 3), ((2, 0, 0, 0, []), 1), ((23, 143, 0, 1, [(0, 84)]), 3), ((3, 2, 0, 0, []), 1), ((29, 1, 0, 0, []), 0)] 21 _ _ _ (by decide +kernel) ?_
      obtain ⟨⟨vq4, σq4⟩, hq4, h⟩ := px_bind h
      dsimp only at h
      refine Exists.intro 0 (Exists.intro vq4 (Exists.intro σq4 (And.intro (Nat.le_of_ble_eq_true rfl) (And.intro (ok_M_beginsText_84 hq4) ?_))))
      obtain ⟨⟨vq5, σq5⟩, hq5, h⟩ := px_bind h
      dsimp only at h
      refine Exists.intro 7 (Exists.intro vq5 (Exists.intro σq5 (And.intro (Nat.le_of_ble_eq_true rfl) (And.intro (ok_M_readsRule_84 hq5) ?_))))
      exact ok_M_law_84_p31 H _ _ _ h
    · refine And.intro (fun hp => absurd hp c3) (fun _ => ?_)
      exact Prod.mk.inj (Option.some.inj h)
theorem ok_M_law_84 {l : Launch} {a1 : Int} {σ : pS} {v : Int} {σ1 : pS} (h : f_M_law_84 a1 σ = some (v, σ1)) : Con l 8 141 [.inr 84, .inl a1] σ v σ1 := Con_mk 2 4 rfl (by decide +kernel) (fun _ H => ok_M_law_84_w H _ _ h)
theorem ok_X_canRun_0_w {l : Launch} {rv : Int} {rσ : pS} {G : Nat → pL → List pV → pS → Prop} (H : px_R l 0 58 rv rσ G) : ∀ (a1 : Int) (σ : pS), f_X_canRun_0 a1 σ = some (rv, rσ) → G 0 [some (.inr 0), some (.inl a1)] [] σ := by
  intro a1 σ h
  unfold f_X_canRun_0 at h
  refine H [((1, 1, 0, 0, []), 1), ((0, 0, 0, 1, []), 1), ((13, 2, 27, 0, []), 3), ((1, 1, 0, 0, []), 1), ((0, 0, 0, 4, []), 1), ((13, 4, 27, 0, []), 3), ((2, 0, 0, 0, []), 1), ((17, 0, 3, 0, []), 3), ((17, 3, 4, 0, []), 3), ((16, 4, 11, 0, []), 3), ((14, 5, 27, 0, []), 3), ((0, 0, 0, 1, []), 1), ((12, 0, 28, 0, []), 3), ((27, 1, 0, 0, []), 1)] 0 _ _ _ (by decide +kernel) ?_
  rcases px_ite h with ⟨c1, h⟩ | ⟨c1, h⟩
  · refine And.intro (fun _ => ?_) (fun hn => absurd c1 hn)
    refine H [((0, 0, 0, 0, []), 1), ((27, 1, 0, 0, []), 1)] 27 _ _ _ (by decide +kernel) ?_
    refine And.intro (show (0 : Int) ≤ 0 ∧ (0 : Int) ≤ 1 from by decide) ?_
    exact Prod.mk.inj (Option.some.inj h)
  · refine And.intro (fun hp => absurd hp c1) (fun _ => ?_)
    rcases px_ite h with ⟨c2, h⟩ | ⟨c2, h⟩
    · refine And.intro (fun _ => ?_) (fun hn => absurd c2 hn)
      refine H [((0, 0, 0, 0, []), 1), ((27, 1, 0, 0, []), 1)] 27 _ _ _ (by decide +kernel) ?_
      refine And.intro (show (0 : Int) ≤ 0 ∧ (0 : Int) ≤ 1 from by decide) ?_
      exact Prod.mk.inj (Option.some.inj h)
    · refine And.intro (fun hp => absurd hp c2) (fun _ => ?_)
      rcases px_ite h with ⟨c3, h⟩ | ⟨c3, h⟩
      · refine And.intro (fun _ => ?_) (fun hn => absurd c3 hn)
        refine H [((0, 0, 0, 0, []), 1), ((27, 1, 0, 0, []), 1)] 27 _ _ _ (by decide +kernel) ?_
        refine And.intro (show (0 : Int) ≤ 0 ∧ (0 : Int) ≤ 1 from by decide) ?_
        exact Prod.mk.inj (Option.some.inj h)
      · refine And.intro (fun hp => absurd hp c3) (fun _ => ?_)
        refine And.intro (show (0 : Int) ≤ 1 ∧ (1 : Int) ≤ 1 from by decide) ?_
        exact Prod.mk.inj (Option.some.inj h)
theorem ok_X_canRun_0 {l : Launch} {a1 : Int} {σ : pS} {v : Int} {σ1 : pS} (h : f_X_canRun_0 a1 σ = some (v, σ1)) : Con l 0 58 [.inr 0, .inl a1] σ v σ1 := Con_mk 2 2 rfl (by decide +kernel) (fun _ H => ok_X_canRun_0_w H _ _ h)
theorem ok_State_copyCellsFrom_28_24_w {l : Launch} {rv : Int} {rσ : pS} {G : Nat → pL → List pV → pS → Prop} (H : px_R l 1 62 rv rσ G) : ∀ (σ : pS), f_State_copyCellsFrom_28_24  σ = some (rv, rσ) → G 0 [some (.inr 28), some (.inr 24)] [] σ := by
  intro  σ h
  unfold f_State_copyCellsFrom_28_24 at h
  refine H [((2, 1, 0, 0, []), 1), ((17, 24, 25, 0, []), 3), ((0, 0, 0, 0, []), 1), ((2, 0, 0, 0, []), 1), ((17, 28, 29, 0, []), 3), ((0, 0, 0, 0, []), 1), ((0, 0, 0, 8, []), 2), ((26, 25, 29, 8, []), 3), ((2, 1, 0, 0, []), 1), ((17, 24, 26, 0, []), 3), ((0, 0, 0, 0, []), 1), ((2, 0, 0, 0, []), 1), ((17, 28, 30, 0, []), 3), ((0, 0, 0, 0, []), 1), ((0, 0, 0, 64, []), 2), ((26, 26, 30, 64, []), 3), ((2, 0, 0, 0, []), 1), ((2, 1, 0, 0, []), 1), ((16, 24, 4, 0, []), 3), ((18, 28, 4, 0, []), 3), ((2, 0, 0, 0, []), 1), ((2, 1, 0, 0, []), 1), ((16, 24, 5, 0, []), 3), ((18, 28, 5, 0, []), 3), ((28, 0, 0, 0, []), 1)] 0 _ _ _ (by decide +kernel) ?_
  exact (Prod.mk.inj (Option.some.inj h)).2
theorem ok_State_copyCellsFrom_28_24 {l : Launch} {σ : pS} {v : Int} {σ1 : pS} (h : f_State_copyCellsFrom_28_24  σ = some (v, σ1)) : Con l 1 62 [.inr 28, .inr 24] σ v σ1 := Con_mk 2 2 rfl (by decide +kernel) (fun _ H => ok_State_copyCellsFrom_28_24_w H  _ h)
theorem ok_State_copySetsFrom_28_24_w {l : Launch} {rv : Int} {rσ : pS} {G : Nat → pL → List pV → pS → Prop} (H : px_R l 1 63 rv rσ G) : ∀ (σ : pS), f_State_copySetsFrom_28_24  σ = some (rv, rσ) → G 0 [some (.inr 28), some (.inr 24)] [] σ := by
  intro  σ h
  unfold f_State_copySetsFrom_28_24 at h
  refine H [((2, 1, 0, 0, []), 1), ((17, 24, 27, 0, []), 3), ((0, 0, 0, 0, []), 1), ((2, 0, 0, 0, []), 1), ((17, 28, 31, 0, []), 3), ((0, 0, 0, 0, []), 1), ((0, 0, 0, 20, []), 2), ((26, 27, 31, 20, []), 3), ((2, 0, 0, 0, []), 1), ((2, 1, 0, 0, []), 1), ((16, 24, 3, 0, []), 3), ((18, 28, 3, 0, []), 3), ((28, 0, 0, 0, []), 1)] 0 _ _ _ (by decide +kernel) ?_
  exact (Prod.mk.inj (Option.some.inj h)).2
theorem ok_State_copySetsFrom_28_24 {l : Launch} {σ : pS} {v : Int} {σ1 : pS} (h : f_State_copySetsFrom_28_24  σ = some (v, σ1)) : Con l 1 63 [.inr 28, .inr 24] σ v σ1 := Con_mk 2 2 rfl (by decide +kernel) (fun _ H => ok_State_copySetsFrom_28_24_w H  _ h)
theorem ok_State_copyFrom_28_24_w {l : Launch} {rv : Int} {rσ : pS} {G : Nat → pL → List pV → pS → Prop} (H : px_R l 2 61 rv rσ G) : ∀ (σ : pS), f_State_copyFrom_28_24  σ = some (rv, rσ) → G 0 [some (.inr 28), some (.inr 24)] [] σ := by
  intro  σ h
  unfold f_State_copyFrom_28_24 at h
  refine H [((2, 0, 0, 0, []), 1), ((2, 1, 0, 0, []), 1), ((23, 62, 1, 0, [(0, 28)]), 3), ((2, 0, 0, 0, []), 1), ((2, 1, 0, 0, []), 1), ((23, 63, 1, 0, [(0, 28)]), 3), ((28, 0, 0, 0, []), 1)] 0 _ _ _ (by decide +kernel) ?_
  obtain ⟨⟨vq1, σq1⟩, hq1, h⟩ := px_bind h
  dsimp only at h
  refine Exists.intro 1 (Exists.intro vq1 (Exists.intro σq1 (And.intro (Nat.le_of_ble_eq_true rfl) (And.intro (ok_State_copyCellsFrom_28_24 hq1) ?_))))
  obtain ⟨⟨vq2, σq2⟩, hq2, h⟩ := px_bind h
  dsimp only at h
  refine Exists.intro 1 (Exists.intro vq2 (Exists.intro σq2 (And.intro (Nat.le_of_ble_eq_true rfl) (And.intro (ok_State_copySetsFrom_28_24 hq2) ?_))))
  exact (Prod.mk.inj (Option.some.inj h)).2
theorem ok_State_copyFrom_28_24 {l : Launch} {σ : pS} {v : Int} {σ1 : pS} (h : f_State_copyFrom_28_24  σ = some (v, σ1)) : Con l 2 61 [.inr 28, .inr 24] σ v σ1 := Con_mk 2 2 rfl (by decide +kernel) (fun _ H => ok_State_copyFrom_28_24_w H  _ h)
theorem ok_Arrays_fill_33_p5 {l : Launch} {rv : Int} {rσ : pS} {G : Nat → pL → List pV → pS → Prop} (H : px_R l 0 6 rv rσ G) : ∀ (n : Nat) (a1 a2 a3 : Int) (σ : pS), f_Arrays_fill_33_p5 n a1 a2 a3 σ = some (rv, rσ) → G 5 [some (.inr 33), some (.inl a1), some (.inl a2), some (.inl a3)] [] σ := by
  intro n
  induction n with
  | zero =>
    intro a1 a2 a3 σ h
    unfold f_Arrays_fill_33_p5 at h
    cases h
  | succ n ih =>
    intro a1 a2 a3 σ h
    unfold f_Arrays_fill_33_p5 at h
    refine H [((1, 2, 0, 0, []), 1), ((1, 3, 0, 0, []), 1), ((13, 3, 20, 0, []), 3), ((2, 0, 0, 0, []), 1), ((1, 2, 0, 0, []), 1), ((1, 1, 0, 0, []), 1), ((20, 33, 6, 0, []), 1), ((5, 2, 0, 1, []), 3), ((12, 0, 5, 0, []), 3)] 5 _ _ _ (by decide +kernel) ?_
    rcases px_ite h with ⟨c1, h⟩ | ⟨c1, h⟩
    · refine And.intro (fun _ => ?_) (fun hn => absurd c1 hn)
      refine H [((28, 0, 0, 0, []), 1)] 20 _ _ _ (by decide +kernel) ?_
      exact (Prod.mk.inj (Option.some.inj h)).2
    · refine And.intro (fun hp => absurd hp c1) (fun _ => ?_)
      obtain ⟨g2, h⟩ := px_gd h
      refine And.intro g2 ?_
      exact ih _ _ _ _ h
theorem ok_Arrays_fill_33_w {l : Launch} {rv : Int} {rσ : pS} {G : Nat → pL → List pV → pS → Prop} (H : px_R l 0 6 rv rσ G) : ∀ (a1 : Int) (σ : pS), f_Arrays_fill_33 a1 σ = some (rv, rσ) → G 0 [some (.inr 33), some (.inl a1), none, none] [] σ := by
  intro a1 σ h
  unfold f_Arrays_fill_33 at h
  refine H [((0, 0, 0, 0, []), 1), ((3, 2, 0, 0, []), 1), ((2, 0, 0, 0, []), 1), ((21, 33, 6, 0, []), 1), ((3, 3, 0, 0, []), 1)] 0 _ _ _ (by decide +kernel) ?_
  exact ok_Arrays_fill_33_p5 H _ _ _ _ _ h
theorem ok_Arrays_fill_33 {l : Launch} {a1 : Int} {σ : pS} {v : Int} {σ1 : pS} (h : f_Arrays_fill_33 a1 σ = some (v, σ1)) : Con l 0 6 [.inr 33, .inl a1] σ v σ1 := Con_mk 2 4 rfl (by decide +kernel) (fun _ H => ok_Arrays_fill_33_w H _ _ h)
theorem ok_Arrays_fill_34_p5 {l : Launch} {rv : Int} {rσ : pS} {G : Nat → pL → List pV → pS → Prop} (H : px_R l 0 6 rv rσ G) : ∀ (n : Nat) (a1 a2 a3 : Int) (σ : pS), f_Arrays_fill_34_p5 n a1 a2 a3 σ = some (rv, rσ) → G 5 [some (.inr 34), some (.inl a1), some (.inl a2), some (.inl a3)] [] σ := by
  intro n
  induction n with
  | zero =>
    intro a1 a2 a3 σ h
    unfold f_Arrays_fill_34_p5 at h
    cases h
  | succ n ih =>
    intro a1 a2 a3 σ h
    unfold f_Arrays_fill_34_p5 at h
    refine H [((1, 2, 0, 0, []), 1), ((1, 3, 0, 0, []), 1), ((13, 3, 20, 0, []), 3), ((2, 0, 0, 0, []), 1), ((1, 2, 0, 0, []), 1), ((1, 1, 0, 0, []), 1), ((20, 34, 20, 0, []), 1), ((5, 2, 0, 1, []), 3), ((12, 0, 5, 0, []), 3)] 5 _ _ _ (by decide +kernel) ?_
    rcases px_ite h with ⟨c1, h⟩ | ⟨c1, h⟩
    · refine And.intro (fun _ => ?_) (fun hn => absurd c1 hn)
      refine H [((28, 0, 0, 0, []), 1)] 20 _ _ _ (by decide +kernel) ?_
      exact (Prod.mk.inj (Option.some.inj h)).2
    · refine And.intro (fun hp => absurd hp c1) (fun _ => ?_)
      obtain ⟨g2, h⟩ := px_gd h
      refine And.intro g2 ?_
      exact ih _ _ _ _ h
theorem ok_Arrays_fill_34_w {l : Launch} {rv : Int} {rσ : pS} {G : Nat → pL → List pV → pS → Prop} (H : px_R l 0 6 rv rσ G) : ∀ (a1 : Int) (σ : pS), f_Arrays_fill_34 a1 σ = some (rv, rσ) → G 0 [some (.inr 34), some (.inl a1), none, none] [] σ := by
  intro a1 σ h
  unfold f_Arrays_fill_34 at h
  refine H [((0, 0, 0, 0, []), 1), ((3, 2, 0, 0, []), 1), ((2, 0, 0, 0, []), 1), ((21, 34, 20, 0, []), 1), ((3, 3, 0, 0, []), 1)] 0 _ _ _ (by decide +kernel) ?_
  exact ok_Arrays_fill_34_p5 H _ _ _ _ _ h
theorem ok_Arrays_fill_34 {l : Launch} {a1 : Int} {σ : pS} {v : Int} {σ1 : pS} (h : f_Arrays_fill_34 a1 σ = some (v, σ1)) : Con l 0 6 [.inr 34, .inl a1] σ v σ1 := Con_mk 2 4 rfl (by decide +kernel) (fun _ H => ok_Arrays_fill_34_w H _ _ h)
theorem ok_Arrays_fill_35_p5 {l : Launch} {rv : Int} {rσ : pS} {G : Nat → pL → List pV → pS → Prop} (H : px_R l 0 6 rv rσ G) : ∀ (n : Nat) (a1 a2 a3 : Int) (σ : pS), f_Arrays_fill_35_p5 n a1 a2 a3 σ = some (rv, rσ) → G 5 [some (.inr 35), some (.inl a1), some (.inl a2), some (.inl a3)] [] σ := by
  intro n
  induction n with
  | zero =>
    intro a1 a2 a3 σ h
    unfold f_Arrays_fill_35_p5 at h
    cases h
  | succ n ih =>
    intro a1 a2 a3 σ h
    unfold f_Arrays_fill_35_p5 at h
    refine H [((1, 2, 0, 0, []), 1), ((1, 3, 0, 0, []), 1), ((13, 3, 20, 0, []), 3), ((2, 0, 0, 0, []), 1), ((1, 2, 0, 0, []), 1), ((1, 1, 0, 0, []), 1), ((20, 35, 20, 0, []), 1), ((5, 2, 0, 1, []), 3), ((12, 0, 5, 0, []), 3)] 5 _ _ _ (by decide +kernel) ?_
    rcases px_ite h with ⟨c1, h⟩ | ⟨c1, h⟩
    · refine And.intro (fun _ => ?_) (fun hn => absurd c1 hn)
      refine H [((28, 0, 0, 0, []), 1)] 20 _ _ _ (by decide +kernel) ?_
      exact (Prod.mk.inj (Option.some.inj h)).2
    · refine And.intro (fun hp => absurd hp c1) (fun _ => ?_)
      obtain ⟨g2, h⟩ := px_gd h
      refine And.intro g2 ?_
      exact ih _ _ _ _ h
theorem ok_Arrays_fill_35_w {l : Launch} {rv : Int} {rσ : pS} {G : Nat → pL → List pV → pS → Prop} (H : px_R l 0 6 rv rσ G) : ∀ (a1 : Int) (σ : pS), f_Arrays_fill_35 a1 σ = some (rv, rσ) → G 0 [some (.inr 35), some (.inl a1), none, none] [] σ := by
  intro a1 σ h
  unfold f_Arrays_fill_35 at h
  refine H [((0, 0, 0, 0, []), 1), ((3, 2, 0, 0, []), 1), ((2, 0, 0, 0, []), 1), ((21, 35, 20, 0, []), 1), ((3, 3, 0, 0, []), 1)] 0 _ _ _ (by decide +kernel) ?_
  exact ok_Arrays_fill_35_p5 H _ _ _ _ _ h
theorem ok_Arrays_fill_35 {l : Launch} {a1 : Int} {σ : pS} {v : Int} {σ1 : pS} (h : f_Arrays_fill_35 a1 σ = some (v, σ1)) : Con l 0 6 [.inr 35, .inl a1] σ v σ1 := Con_mk 2 4 rfl (by decide +kernel) (fun _ H => ok_Arrays_fill_35_w H _ _ h)
theorem ok_Arrays_fill_36_p5 {l : Launch} {rv : Int} {rσ : pS} {G : Nat → pL → List pV → pS → Prop} (H : px_R l 0 6 rv rσ G) : ∀ (n : Nat) (a1 a2 a3 : Int) (σ : pS), f_Arrays_fill_36_p5 n a1 a2 a3 σ = some (rv, rσ) → G 5 [some (.inr 36), some (.inl a1), some (.inl a2), some (.inl a3)] [] σ := by
  intro n
  induction n with
  | zero =>
    intro a1 a2 a3 σ h
    unfold f_Arrays_fill_36_p5 at h
    cases h
  | succ n ih =>
    intro a1 a2 a3 σ h
    unfold f_Arrays_fill_36_p5 at h
    refine H [((1, 2, 0, 0, []), 1), ((1, 3, 0, 0, []), 1), ((13, 3, 20, 0, []), 3), ((2, 0, 0, 0, []), 1), ((1, 2, 0, 0, []), 1), ((1, 1, 0, 0, []), 1), ((20, 36, 20, 0, []), 1), ((5, 2, 0, 1, []), 3), ((12, 0, 5, 0, []), 3)] 5 _ _ _ (by decide +kernel) ?_
    rcases px_ite h with ⟨c1, h⟩ | ⟨c1, h⟩
    · refine And.intro (fun _ => ?_) (fun hn => absurd c1 hn)
      refine H [((28, 0, 0, 0, []), 1)] 20 _ _ _ (by decide +kernel) ?_
      exact (Prod.mk.inj (Option.some.inj h)).2
    · refine And.intro (fun hp => absurd hp c1) (fun _ => ?_)
      obtain ⟨g2, h⟩ := px_gd h
      refine And.intro g2 ?_
      exact ih _ _ _ _ h
theorem ok_Arrays_fill_36_w {l : Launch} {rv : Int} {rσ : pS} {G : Nat → pL → List pV → pS → Prop} (H : px_R l 0 6 rv rσ G) : ∀ (a1 : Int) (σ : pS), f_Arrays_fill_36 a1 σ = some (rv, rσ) → G 0 [some (.inr 36), some (.inl a1), none, none] [] σ := by
  intro a1 σ h
  unfold f_Arrays_fill_36 at h
  refine H [((0, 0, 0, 0, []), 1), ((3, 2, 0, 0, []), 1), ((2, 0, 0, 0, []), 1), ((21, 36, 20, 0, []), 1), ((3, 3, 0, 0, []), 1)] 0 _ _ _ (by decide +kernel) ?_
  exact ok_Arrays_fill_36_p5 H _ _ _ _ _ h
theorem ok_Arrays_fill_36 {l : Launch} {a1 : Int} {σ : pS} {v : Int} {σ1 : pS} (h : f_Arrays_fill_36 a1 σ = some (v, σ1)) : Con l 0 6 [.inr 36, .inl a1] σ v σ1 := Con_mk 2 4 rfl (by decide +kernel) (fun _ H => ok_Arrays_fill_36_w H _ _ h)
theorem ok_Arrays_fill_37_p5 {l : Launch} {rv : Int} {rσ : pS} {G : Nat → pL → List pV → pS → Prop} (H : px_R l 0 6 rv rσ G) : ∀ (n : Nat) (a1 a2 a3 : Int) (σ : pS), f_Arrays_fill_37_p5 n a1 a2 a3 σ = some (rv, rσ) → G 5 [some (.inr 37), some (.inl a1), some (.inl a2), some (.inl a3)] [] σ := by
  intro n
  induction n with
  | zero =>
    intro a1 a2 a3 σ h
    unfold f_Arrays_fill_37_p5 at h
    cases h
  | succ n ih =>
    intro a1 a2 a3 σ h
    unfold f_Arrays_fill_37_p5 at h
    refine H [((1, 2, 0, 0, []), 1), ((1, 3, 0, 0, []), 1), ((13, 3, 20, 0, []), 3), ((2, 0, 0, 0, []), 1), ((1, 2, 0, 0, []), 1), ((1, 1, 0, 0, []), 1), ((20, 37, 20, 0, []), 1), ((5, 2, 0, 1, []), 3), ((12, 0, 5, 0, []), 3)] 5 _ _ _ (by decide +kernel) ?_
    rcases px_ite h with ⟨c1, h⟩ | ⟨c1, h⟩
    · refine And.intro (fun _ => ?_) (fun hn => absurd c1 hn)
      refine H [((28, 0, 0, 0, []), 1)] 20 _ _ _ (by decide +kernel) ?_
      exact (Prod.mk.inj (Option.some.inj h)).2
    · refine And.intro (fun hp => absurd hp c1) (fun _ => ?_)
      obtain ⟨g2, h⟩ := px_gd h
      refine And.intro g2 ?_
      exact ih _ _ _ _ h
theorem ok_Arrays_fill_37_w {l : Launch} {rv : Int} {rσ : pS} {G : Nat → pL → List pV → pS → Prop} (H : px_R l 0 6 rv rσ G) : ∀ (a1 : Int) (σ : pS), f_Arrays_fill_37 a1 σ = some (rv, rσ) → G 0 [some (.inr 37), some (.inl a1), none, none] [] σ := by
  intro a1 σ h
  unfold f_Arrays_fill_37 at h
  refine H [((0, 0, 0, 0, []), 1), ((3, 2, 0, 0, []), 1), ((2, 0, 0, 0, []), 1), ((21, 37, 20, 0, []), 1), ((3, 3, 0, 0, []), 1)] 0 _ _ _ (by decide +kernel) ?_
  exact ok_Arrays_fill_37_p5 H _ _ _ _ _ h
theorem ok_Arrays_fill_37 {l : Launch} {a1 : Int} {σ : pS} {v : Int} {σ1 : pS} (h : f_Arrays_fill_37 a1 σ = some (v, σ1)) : Con l 0 6 [.inr 37, .inl a1] σ v σ1 := Con_mk 2 4 rfl (by decide +kernel) (fun _ H => ok_Arrays_fill_37_w H _ _ h)
theorem ok_Arrays_fill_38_p5 {l : Launch} {rv : Int} {rσ : pS} {G : Nat → pL → List pV → pS → Prop} (H : px_R l 0 6 rv rσ G) : ∀ (n : Nat) (a1 a2 a3 : Int) (σ : pS), f_Arrays_fill_38_p5 n a1 a2 a3 σ = some (rv, rσ) → G 5 [some (.inr 38), some (.inl a1), some (.inl a2), some (.inl a3)] [] σ := by
  intro n
  induction n with
  | zero =>
    intro a1 a2 a3 σ h
    unfold f_Arrays_fill_38_p5 at h
    cases h
  | succ n ih =>
    intro a1 a2 a3 σ h
    unfold f_Arrays_fill_38_p5 at h
    refine H [((1, 2, 0, 0, []), 1), ((1, 3, 0, 0, []), 1), ((13, 3, 20, 0, []), 3), ((2, 0, 0, 0, []), 1), ((1, 2, 0, 0, []), 1), ((1, 1, 0, 0, []), 1), ((20, 38, 80, 0, []), 1), ((5, 2, 0, 1, []), 3), ((12, 0, 5, 0, []), 3)] 5 _ _ _ (by decide +kernel) ?_
    rcases px_ite h with ⟨c1, h⟩ | ⟨c1, h⟩
    · refine And.intro (fun _ => ?_) (fun hn => absurd c1 hn)
      refine H [((28, 0, 0, 0, []), 1)] 20 _ _ _ (by decide +kernel) ?_
      exact (Prod.mk.inj (Option.some.inj h)).2
    · refine And.intro (fun hp => absurd hp c1) (fun _ => ?_)
      obtain ⟨g2, h⟩ := px_gd h
      refine And.intro g2 ?_
      exact ih _ _ _ _ h
theorem ok_Arrays_fill_38_w {l : Launch} {rv : Int} {rσ : pS} {G : Nat → pL → List pV → pS → Prop} (H : px_R l 0 6 rv rσ G) : ∀ (a1 : Int) (σ : pS), f_Arrays_fill_38 a1 σ = some (rv, rσ) → G 0 [some (.inr 38), some (.inl a1), none, none] [] σ := by
  intro a1 σ h
  unfold f_Arrays_fill_38 at h
  refine H [((0, 0, 0, 0, []), 1), ((3, 2, 0, 0, []), 1), ((2, 0, 0, 0, []), 1), ((21, 38, 80, 0, []), 1), ((3, 3, 0, 0, []), 1)] 0 _ _ _ (by decide +kernel) ?_
  exact ok_Arrays_fill_38_p5 H _ _ _ _ _ h
theorem ok_Arrays_fill_38 {l : Launch} {a1 : Int} {σ : pS} {v : Int} {σ1 : pS} (h : f_Arrays_fill_38 a1 σ = some (v, σ1)) : Con l 0 6 [.inr 38, .inl a1] σ v σ1 := Con_mk 2 4 rfl (by decide +kernel) (fun _ H => ok_Arrays_fill_38_w H _ _ h)
theorem ok_Rep_clear_32_w {l : Launch} {rv : Int} {rσ : pS} {G : Nat → pL → List pV → pS → Prop} (H : px_R l 1 64 rv rσ G) : ∀ (σ : pS), f_Rep_clear_32  σ = some (rv, rσ) → G 0 [some (.inr 32)] [] σ := by
  intro  σ h
  unfold f_Rep_clear_32 at h
  refine H [((2, 0, 0, 0, []), 1), ((17, 32, 33, 0, []), 3), ((0, 0, 0, 0, []), 1), ((24, 6, 2, 0, []), 3), ((2, 0, 0, 0, []), 1), ((17, 32, 34, 0, []), 3), ((0, 0, 0, 0, []), 1), ((24, 6, 2, 0, []), 3), ((2, 0, 0, 0, []), 1), ((17, 32, 35, 0, []), 3), ((0, 0, 0, 0, []), 1), ((24, 6, 2, 0, []), 3), ((2, 0, 0, 0, []), 1), ((17, 32, 36, 0, []), 3), ((0, 0, 0, 0, []), 1), ((24, 6, 2, 0, []), 3), ((2, 0, 0, 0, []), 1), ((17, 32, 37, 0, []), 3), ((0, 0, 0, 0, []), 1), ((24, 6, 2, 0, []), 3), ((2, 0, 0, 0, []), 1), ((17, 32, 38, 0, []), 3), ((0, 0, 0, (-1), []), 1), ((24, 6, 2, 0, []), 3), ((28, 0, 0, 0, []), 1)] 0 _ _ _ (by decide +kernel) ?_
  obtain ⟨⟨vq1, σq1⟩, hq1, h⟩ := px_bind h
  dsimp only at h
  refine Exists.intro 0 (Exists.intro vq1 (Exists.intro σq1 (And.intro (Nat.le_of_ble_eq_true rfl) (And.intro (ok_Arrays_fill_33 hq1) ?_))))
  obtain ⟨⟨vq2, σq2⟩, hq2, h⟩ := px_bind h
  dsimp only at h
  refine Exists.intro 0 (Exists.intro vq2 (Exists.intro σq2 (And.intro (Nat.le_of_ble_eq_true rfl) (And.intro (ok_Arrays_fill_34 hq2) ?_))))
  obtain ⟨⟨vq3, σq3⟩, hq3, h⟩ := px_bind h
  dsimp only at h
  refine Exists.intro 0 (Exists.intro vq3 (Exists.intro σq3 (And.intro (Nat.le_of_ble_eq_true rfl) (And.intro (ok_Arrays_fill_35 hq3) ?_))))
  obtain ⟨⟨vq4, σq4⟩, hq4, h⟩ := px_bind h
  dsimp only at h
  refine Exists.intro 0 (Exists.intro vq4 (Exists.intro σq4 (And.intro (Nat.le_of_ble_eq_true rfl) (And.intro (ok_Arrays_fill_36 hq4) ?_))))
  obtain ⟨⟨vq5, σq5⟩, hq5, h⟩ := px_bind h
  dsimp only at h
  refine Exists.intro 0 (Exists.intro vq5 (Exists.intro σq5 (And.intro (Nat.le_of_ble_eq_true rfl) (And.intro (ok_Arrays_fill_37 hq5) ?_))))
  obtain ⟨⟨vq6, σq6⟩, hq6, h⟩ := px_bind h
  dsimp only at h
  refine Exists.intro 0 (Exists.intro vq6 (Exists.intro σq6 (And.intro (Nat.le_of_ble_eq_true rfl) (And.intro (ok_Arrays_fill_38 hq6) ?_))))
  exact (Prod.mk.inj (Option.some.inj h)).2
theorem ok_Rep_clear_32 {l : Launch} {σ : pS} {v : Int} {σ1 : pS} (h : f_Rep_clear_32  σ = some (v, σ1)) : Con l 1 64 [.inr 32] σ v σ1 := Con_mk 1 1 rfl (by decide +kernel) (fun _ H => ok_Rep_clear_32_w H  _ h)
theorem ok_Arrays_fill_39_p5 {l : Launch} {rv : Int} {rσ : pS} {G : Nat → pL → List pV → pS → Prop} (H : px_R l 0 6 rv rσ G) : ∀ (n : Nat) (a1 a2 a3 : Int) (σ : pS), f_Arrays_fill_39_p5 n a1 a2 a3 σ = some (rv, rσ) → G 5 [some (.inr 39), some (.inl a1), some (.inl a2), some (.inl a3)] [] σ := by
  intro n
  induction n with
  | zero =>
    intro a1 a2 a3 σ h
    unfold f_Arrays_fill_39_p5 at h
    cases h
  | succ n ih =>
    intro a1 a2 a3 σ h
    unfold f_Arrays_fill_39_p5 at h
    refine H [((1, 2, 0, 0, []), 1), ((1, 3, 0, 0, []), 1), ((13, 3, 20, 0, []), 3), ((2, 0, 0, 0, []), 1), ((1, 2, 0, 0, []), 1), ((1, 1, 0, 0, []), 1), ((20, 39, 20, 0, []), 1), ((5, 2, 0, 1, []), 3), ((12, 0, 5, 0, []), 3)] 5 _ _ _ (by decide +kernel) ?_
    rcases px_ite h with ⟨c1, h⟩ | ⟨c1, h⟩
    · refine And.intro (fun _ => ?_) (fun hn => absurd c1 hn)
      refine H [((28, 0, 0, 0, []), 1)] 20 _ _ _ (by decide +kernel) ?_
      exact (Prod.mk.inj (Option.some.inj h)).2
    · refine And.intro (fun hp => absurd hp c1) (fun _ => ?_)
      obtain ⟨g2, h⟩ := px_gd h
      refine And.intro g2 ?_
      exact ih _ _ _ _ h
theorem ok_Arrays_fill_39_w {l : Launch} {rv : Int} {rσ : pS} {G : Nat → pL → List pV → pS → Prop} (H : px_R l 0 6 rv rσ G) : ∀ (a1 : Int) (σ : pS), f_Arrays_fill_39 a1 σ = some (rv, rσ) → G 0 [some (.inr 39), some (.inl a1), none, none] [] σ := by
  intro a1 σ h
  unfold f_Arrays_fill_39 at h
  refine H [((0, 0, 0, 0, []), 1), ((3, 2, 0, 0, []), 1), ((2, 0, 0, 0, []), 1), ((21, 39, 20, 0, []), 1), ((3, 3, 0, 0, []), 1)] 0 _ _ _ (by decide +kernel) ?_
  exact ok_Arrays_fill_39_p5 H _ _ _ _ _ h
theorem ok_Arrays_fill_39 {l : Launch} {a1 : Int} {σ : pS} {v : Int} {σ1 : pS} (h : f_Arrays_fill_39 a1 σ = some (v, σ1)) : Con l 0 6 [.inr 39, .inl a1] σ v σ1 := Con_mk 2 4 rfl (by decide +kernel) (fun _ H => ok_Arrays_fill_39_w H _ _ h)
theorem ok_Mach_begin_3_p28 {l : Launch} {rv : Int} {rσ : pS} {G : Nat → pL → List pV → pS → Prop} (H : px_R l 3 60 rv rσ G) : ∀ (n : Nat) (a1 : Int) (σ : pS), f_Mach_begin_3_p28 n a1 σ = some (rv, rσ) → G 28 [some (.inr 3), some (.inl a1)] [] σ := by
  intro n
  induction n with
  | zero =>
    intro a1 σ h
    unfold f_Mach_begin_3_p28 at h
    cases h
  | succ n ih =>
    intro a1 σ h
    unfold f_Mach_begin_3_p28 at h
    refine H [((1, 1, 0, 0, []), 1), ((0, 0, 0, 20, []), 2), ((13, 3, 47, 0, []), 3), ((2, 0, 0, 0, []), 1), ((17, 3, 41, 0, []), 3), ((1, 1, 0, 0, []), 1), ((0, 0, 0, 0, []), 1), ((20, 41, 20, 1, []), 1), ((5, 1, 0, 1, []), 3), ((12, 0, 28, 0, []), 3)] 28 _ _ _ (by decide +kernel) ?_
    rcases px_ite h with ⟨c4, h⟩ | ⟨c4, h⟩
    · refine And.intro (fun _ => ?_) (fun hn => absurd c4 hn)
      refine H [((28, 0, 0, 0, []), 1)] 47 _ _ _ (by decide +kernel) ?_
      exact (Prod.mk.inj (Option.some.inj h)).2
    · refine And.intro (fun hp => absurd hp c4) (fun _ => ?_)
      obtain ⟨g5, h⟩ := px_gd h
      refine And.intro g5 ?_
      refine And.intro (show (0 : Int) ≤ 0 ∧ (0 : Int) ≤ 1 from by decide) ?_
      exact ih _ _ h
theorem ok_Mach_begin_3_w {l : Launch} {rv : Int} {rσ : pS} {G : Nat → pL → List pV → pS → Prop} (H : px_R l 3 60 rv rσ G) : ∀ (σ : pS), f_Mach_begin_3  σ = some (rv, rσ) → G 0 [some (.inr 3), none] [] σ := by
  intro  σ h
  unfold f_Mach_begin_3 at h
  refine H [((2, 0, 0, 0, []), 1), ((17, 3, 28, 0, []), 3), ((2, 0, 0, 0, []), 1), ((17, 3, 24, 0, []), 3), ((23, 61, 1, 0, [(0, 28)]), 3), ((2, 0, 0, 0, []), 1), ((17, 3, 32, 0, []), 3), ((23, 64, 0, 0, [(0, 32)]), 3), ((2, 0, 0, 0, []), 1), ((17, 3, 39, 0, []), 3), ((0, 0, 0, 0, []), 1), ((24, 6, 2, 0, []), 3), ((0, 0, 0, 0, []), 1), ((3, 1, 0, 0, []), 1)] 0 _ _ _ (by decide +kernel) ?_
  obtain ⟨⟨vq1, σq1⟩, hq1, h⟩ := px_bind h
  dsimp only at h
  refine Exists.intro 2 (Exists.intro vq1 (Exists.intro σq1 (And.intro (Nat.le_of_ble_eq_true rfl) (And.intro (ok_State_copyFrom_28_24 hq1) ?_))))
  obtain ⟨⟨vq2, σq2⟩, hq2, h⟩ := px_bind h
  dsimp only at h
  refine Exists.intro 1 (Exists.intro vq2 (Exists.intro σq2 (And.intro (Nat.le_of_ble_eq_true rfl) (And.intro (ok_Rep_clear_32 hq2) ?_))))
  obtain ⟨⟨vq3, σq3⟩, hq3, h⟩ := px_bind h
  dsimp only at h
  refine Exists.intro 0 (Exists.intro vq3 (Exists.intro σq3 (And.intro (Nat.le_of_ble_eq_true rfl) (And.intro (ok_Arrays_fill_39 hq3) ?_))))
  exact ok_Mach_begin_3_p28 H _ _ _ h
theorem ok_Mach_begin_3 {l : Launch} {σ : pS} {v : Int} {σ1 : pS} (h : f_Mach_begin_3  σ = some (v, σ1)) : Con l 3 60 [.inr 3] σ v σ1 := Con_mk 1 2 rfl (by decide +kernel) (fun _ H => ok_Mach_begin_3_w H  _ h)
theorem ok_Mach_valueRead_3_p20 {l : Launch} {rv : Int} {rσ : pS} {G : Nat → pL → List pV → pS → Prop} (H : px_R l 1 66 rv rσ G) : ∀ (a2 : Int) (σ : pS), f_Mach_valueRead_3_p20 a2 σ = some (rv, rσ) → G 20 [some (.inr 3), none, some (.inl a2)] [] σ := by
  intro a2 σ h
  unfold f_Mach_valueRead_3_p20 at h
  refine H [((1, 2, 0, 0, []), 1), ((24, 52, 1, 1, []), 3), ((14, 0, 39, 0, []), 3), ((2, 0, 0, 0, []), 1), ((17, 3, 24, 0, []), 3), ((17, 24, 25, 0, []), 3), ((1, 2, 0, 0, []), 1), ((19, 25, 8, 0, []), 1), ((12, 0, 40, 0, []), 3), ((27, 0, 0, 0, []), 1)] 20 _ _ _ (by decide +kernel) ?_
  obtain ⟨⟨vq2, σq2⟩, hq2, h⟩ := px_bind h
  dsimp only at h
  refine Exists.intro 0 (Exists.intro vq2 (Exists.intro σq2 (And.intro (Nat.le_of_ble_eq_true rfl) (And.intro (ok_X_isCell hq2) ?_))))
  rcases px_ite h with ⟨c3, h⟩ | ⟨c3, h⟩
  · refine And.intro (fun _ => ?_) (fun hn => absurd c3 hn)
    refine H [((0, 0, 0, 0, []), 1), ((27, 0, 0, 0, []), 1)] 39 _ _ _ (by decide +kernel) ?_
    exact Prod.mk.inj (Option.some.inj h)
  · refine And.intro (fun hp => absurd hp c3) (fun _ => ?_)
    obtain ⟨g4, h⟩ := px_gd h
    refine And.intro g4 ?_
    exact Prod.mk.inj (Option.some.inj h)
theorem ok_Mach_valueRead_3_w {l : Launch} {rv : Int} {rσ : pS} {G : Nat → pL → List pV → pS → Prop} (H : px_R l 1 66 rv rσ G) : ∀ (a1 a2 : Int) (σ : pS), f_Mach_valueRead_3 a1 a2 σ = some (rv, rσ) → G 0 [some (.inr 3), some (.inl a1), some (.inl a2)] [] σ := by
  intro a1 a2 σ h
  unfold f_Mach_valueRead_3 at h
  refine H [((1, 1, 0, 0, []), 1), ((14, 2, 20, 0, []), 3), ((1, 1, 0, 0, []), 1), ((0, 0, 0, 20, []), 2), ((13, 3, 20, 0, []), 3), ((2, 0, 0, 0, []), 1), ((17, 3, 32, 0, []), 3), ((17, 32, 36, 0, []), 3), ((1, 1, 0, 0, []), 1), ((19, 36, 20, 0, []), 1), ((27, 0, 0, 0, []), 1)] 0 _ _ _ (by decide +kernel) ?_
  rcases px_ite h with ⟨c1, h⟩ | ⟨c1, h⟩
  · refine And.intro (fun _ => ?_) (fun hn => absurd c1 hn)
    refine H [((29, 1, 0, 0, []), 0)] 20 _ _ _ (by decide +kernel) ?_
    exact ok_Mach_valueRead_3_p20 H _ _ h
  · refine And.intro (fun hp => absurd hp c1) (fun _ => ?_)
    rcases px_ite h with ⟨c5, h⟩ | ⟨c5, h⟩
    · refine And.intro (fun _ => ?_) (fun hn => absurd c5 hn)
      refine H [((29, 1, 0, 0, []), 0)] 20 _ _ _ (by decide +kernel) ?_
      exact ok_Mach_valueRead_3_p20 H _ _ h
    · refine And.intro (fun hp => absurd hp c5) (fun _ => ?_)
      obtain ⟨g6, h⟩ := px_gd h
      refine And.intro g6 ?_
      exact Prod.mk.inj (Option.some.inj h)
theorem ok_Mach_valueRead_3 {l : Launch} {a1 a2 : Int} {σ : pS} {v : Int} {σ1 : pS} (h : f_Mach_valueRead_3 a1 a2 σ = some (v, σ1)) : Con l 1 66 [.inr 3, .inl a1, .inl a2] σ v σ1 := Con_mk 3 3 rfl (by decide +kernel) (fun _ H => ok_Mach_valueRead_3_w H _ _ _ h)
theorem ok_Prog_reckoned_4_w {l : Launch} {rv : Int} {rσ : pS} {G : Nat → pL → List pV → pS → Prop} (H : px_R l 0 80 rv rσ G) : ∀ (a1 a2 a3 : Int) (σ : pS), f_Prog_reckoned_4 a1 a2 a3 σ = some (rv, rσ) → G 0 [some (.inr 4), some (.inl a1), some (.inl a2), some (.inl a3)] [] σ := by
  intro a1 a2 a3 σ h
  unfold f_Prog_reckoned_4 at h
  refine H [((2, 0, 0, 0, []), 1), ((17, 4, 6, 0, []), 3), ((1, 1, 0, 0, []), 1), ((19, 6, 20, 0, []), 1), ((15, 0, 95, 0, [(38, 76), (42, 72), (43, 64), (45, 68), (62, 84), (94, 80)]), 58)] 0 _ _ _ (by decide +kernel) ?_
  obtain ⟨g1, h⟩ := px_gd h
  refine And.intro g1 ?_
  rcases px_ite h with ⟨c2, h⟩ | ⟨c2, h⟩
  · refine And.intro (fun _ => ?_) (fun hn => absurd c2 hn)
    refine H [((1, 2, 0, 0, []), 1), ((1, 3, 0, 0, []), 1), ((6, 3, 0, 0, []), 1), ((27, 0, 0, 0, []), 1)] 76 _ _ _ (by decide +kernel) ?_
    exact Prod.mk.inj (Option.some.inj h)
  · refine And.intro (fun hp => absurd hp c2) (fun _ => ?_)
    rcases px_ite h with ⟨c3, h⟩ | ⟨c3, h⟩
    · refine And.intro (fun _ => ?_) (fun hn => absurd c3 hn)
      refine H [((1, 2, 0, 0, []), 1), ((1, 3, 0, 0, []), 1), ((6, 2, 0, 0, []), 1), ((27, 0, 0, 0, []), 1)] 72 _ _ _ (by decide +kernel) ?_
      exact Prod.mk.inj (Option.some.inj h)
    · refine And.intro (fun hp => absurd hp c3) (fun _ => ?_)
      rcases px_ite h with ⟨c4, h⟩ | ⟨c4, h⟩
      · refine And.intro (fun _ => ?_) (fun hn => absurd c4 hn)
        refine H [((1, 2, 0, 0, []), 1), ((1, 3, 0, 0, []), 1), ((6, 0, 0, 0, []), 1), ((27, 0, 0, 0, []), 1)] 64 _ _ _ (by decide +kernel) ?_
        exact Prod.mk.inj (Option.some.inj h)
      · refine And.intro (fun hp => absurd hp c4) (fun _ => ?_)
        rcases px_ite h with ⟨c5, h⟩ | ⟨c5, h⟩
        · refine And.intro (fun _ => ?_) (fun hn => absurd c5 hn)
          refine H [((1, 2, 0, 0, []), 1), ((1, 3, 0, 0, []), 1), ((6, 1, 0, 0, []), 1), ((27, 0, 0, 0, []), 1)] 68 _ _ _ (by decide +kernel) ?_
          exact Prod.mk.inj (Option.some.inj h)
        · refine And.intro (fun hp => absurd hp c5) (fun _ => ?_)
          rcases px_ite h with ⟨c6, h⟩ | ⟨c6, h⟩
          · refine And.intro (fun _ => ?_) (fun hn => absurd c6 hn)
            refine H [((1, 2, 0, 0, []), 1), ((1, 3, 0, 0, []), 1), ((13, 5, 93, 0, []), 3), ((0, 0, 0, 1, []), 1), ((12, 0, 94, 0, []), 3), ((27, 0, 0, 0, []), 1)] 84 _ _ _ (by decide +kernel) ?_
            rcases px_ite h with ⟨c7, h⟩ | ⟨c7, h⟩
            · refine And.intro (fun _ => ?_) (fun hn => absurd c7 hn)
              refine H [((0, 0, 0, 0, []), 1), ((27, 0, 0, 0, []), 1)] 93 _ _ _ (by decide +kernel) ?_
              exact Prod.mk.inj (Option.some.inj h)
            · refine And.intro (fun hp => absurd hp c7) (fun _ => ?_)
              exact Prod.mk.inj (Option.some.inj h)
          · refine And.intro (fun hp => absurd hp c6) (fun _ => ?_)
            rcases px_ite h with ⟨c8, h⟩ | ⟨c8, h⟩
            · refine And.intro (fun _ => ?_) (fun hn => absurd c8 hn)
              refine H [((1, 2, 0, 0, []), 1), ((1, 3, 0, 0, []), 1), ((6, 5, 0, 0, []), 1), ((27, 0, 0, 0, []), 1)] 80 _ _ _ (by decide +kernel) ?_
              exact Prod.mk.inj (Option.some.inj h)
            · refine And.intro (fun hp => absurd hp c8) (fun _ => ?_)
              refine H [((2, 0, 0, 0, []), 1), ((17, 4, 11, 0, []), 3), ((1, 1, 0, 0, []), 1), ((19, 11, 20, 0, []), 1), ((27, 0, 0, 0, []), 1)] 95 _ _ _ (by decide +kernel) ?_
              obtain ⟨g9, h⟩ := px_gd h
              refine And.intro g9 ?_
              exact Prod.mk.inj (Option.some.inj h)
theorem ok_Prog_reckoned_4 {l : Launch} {a1 a2 a3 : Int} {σ : pS} {v : Int} {σ1 : pS} (h : f_Prog_reckoned_4 a1 a2 a3 σ = some (v, σ1)) : Con l 0 80 [.inr 4, .inl a1, .inl a2, .inl a3] σ v σ1 := Con_mk 4 4 rfl (by decide +kernel) (fun _ H => ok_Prog_reckoned_4_w H _ _ _ _ h)
theorem ok_Prog_placeBy_4_w {l : Launch} {rv : Int} {rσ : pS} {G : Nat → pL → List pV → pS → Prop} (H : px_R l 0 67 rv rσ G) : ∀ (a1 a2 : Int) (σ : pS), f_Prog_placeBy_4 a1 a2 σ = some (rv, rσ) → G 0 [some (.inr 4), some (.inl a1), some (.inl a2)] [] σ := by
  intro a1 a2 σ h
  unfold f_Prog_placeBy_4 at h
  refine H [((1, 2, 0, 0, []), 1), ((2, 0, 0, 0, []), 1), ((17, 4, 11, 0, []), 3), ((1, 1, 0, 0, []), 1), ((19, 11, 20, 0, []), 1), ((6, 0, 0, 0, []), 1), ((0, 0, 0, 63, []), 2), ((6, 3, 0, 0, []), 1), ((27, 0, 0, 0, []), 1)] 0 _ _ _ (by decide +kernel) ?_
  obtain ⟨g1, h⟩ := px_gd h
  refine And.intro g1 ?_
  exact Prod.mk.inj (Option.some.inj h)
theorem ok_Prog_placeBy_4 {l : Launch} {a1 a2 : Int} {σ : pS} {v : Int} {σ1 : pS} (h : f_Prog_placeBy_4 a1 a2 σ = some (v, σ1)) : Con l 0 67 [.inr 4, .inl a1, .inl a2] σ v σ1 := Con_mk 3 3 rfl (by decide +kernel) (fun _ H => ok_Prog_placeBy_4_w H _ _ _ h)
theorem ok_Prog_storedOf_4_w {l : Launch} {rv : Int} {rσ : pS} {G : Nat → pL → List pV → pS → Prop} (H : px_R l 0 72 rv rσ G) : ∀ (a1 a2 : Int) (σ : pS), f_Prog_storedOf_4 a1 a2 σ = some (rv, rσ) → G 0 [some (.inr 4), some (.inl a1), some (.inl a2)] [] σ := by
  intro a1 a2 σ h
  unfold f_Prog_storedOf_4 at h
  refine H [((2, 0, 0, 0, []), 1), ((17, 4, 7, 0, []), 3), ((1, 1, 0, 0, []), 1), ((19, 7, 20, 0, []), 1), ((0, 0, 0, 4, []), 1), ((13, 1, 14, 0, []), 3), ((1, 2, 0, 0, []), 1), ((12, 0, 29, 0, []), 3), ((27, 0, 0, 0, []), 1)] 0 _ _ _ (by decide +kernel) ?_
  obtain ⟨g1, h⟩ := px_gd h
  refine And.intro g1 ?_
  rcases px_ite h with ⟨c2, h⟩ | ⟨c2, h⟩
  · refine And.intro (fun hp => absurd c2 hp) (fun _ => ?_)
    exact Prod.mk.inj (Option.some.inj h)
  · refine And.intro (fun _ => ?_) (fun hn => absurd c2 hn)
    refine H [((1, 2, 0, 0, []), 1), ((0, 0, 0, 1, []), 1), ((0, 0, 0, 8, []), 2), ((2, 0, 0, 0, []), 1), ((17, 4, 7, 0, []), 3), ((1, 1, 0, 0, []), 1), ((19, 7, 20, 0, []), 1), ((6, 2, 0, 0, []), 1), ((6, 6, 0, 0, []), 1), ((0, 0, 0, 1, []), 1), ((6, 1, 0, 0, []), 1), ((6, 3, 0, 0, []), 1), ((27, 0, 0, 0, []), 1)] 14 _ _ _ (by decide +kernel) ?_
    obtain ⟨g3, h⟩ := px_gd h
    refine And.intro g3 ?_
    exact Prod.mk.inj (Option.some.inj h)
theorem ok_Prog_storedOf_4 {l : Launch} {a1 a2 : Int} {σ : pS} {v : Int} {σ1 : pS} (h : f_Prog_storedOf_4 a1 a2 σ = some (v, σ1)) : Con l 0 72 [.inr 4, .inl a1, .inl a2] σ v σ1 := Con_mk 3 3 rfl (by decide +kernel) (fun _ H => ok_Prog_storedOf_4_w H _ _ _ h)
theorem ok_Mach_undoDownTo_3_p26 {l : Launch} {rv : Int} {rσ : pS} {G : Nat → pL → List pV → pS → Prop} (H : px_R l 0 78 rv rσ G) {k_10 : Int → Int → pS → Option (Int × pS)} (hk_10 : ∀ (a1 a2 : Int) (σ : pS), k_10 a1 a2 σ = some (rv, rσ) → G 10 [some (.inr 3), some (.inl a1), some (.inl a2), none] [] σ) : ∀ (n : Nat) (a1 a2 a3 : Int) (σ : pS), f_Mach_undoDownTo_3_p26 k_10 n a1 a2 a3 σ = some (rv, rσ) → G 26 [some (.inr 3), some (.inl a1), some (.inl a2), some (.inl a3)] [] σ := by
  intro n
  induction n with
  | zero =>
    intro a1 a2 a3 σ h
    unfold f_Mach_undoDownTo_3_p26 at h
    cases h
  | succ n ih =>
    intro a1 a2 a3 σ h
    unfold f_Mach_undoDownTo_3_p26 at h
    refine H [((1, 3, 0, 0, []), 1), ((2, 0, 0, 0, []), 1), ((17, 3, 4, 0, []), 3), ((17, 4, 7, 0, []), 3), ((1, 2, 0, 0, []), 1), ((19, 7, 20, 0, []), 1), ((13, 3, 77, 0, []), 3), ((2, 0, 0, 0, []), 1), ((17, 3, 28, 0, []), 3), ((17, 28, 30, 0, []), 3), ((2, 0, 0, 0, []), 1), ((17, 3, 32, 0, []), 3), ((17, 32, 37, 0, []), 3), ((1, 2, 0, 0, []), 1), ((19, 37, 20, 0, []), 1), ((1, 3, 0, 0, []), 1), ((6, 0, 0, 0, []), 1), ((0, 0, 0, 63, []), 2), ((6, 3, 0, 0, []), 1), ((2, 0, 0, 0, []), 1), ((17, 3, 42, 0, []), 3), ((1, 2, 0, 0, []), 1), ((0, 0, 0, 4, []), 1), ((6, 2, 0, 0, []), 1), ((1, 3, 0, 0, []), 1), ((6, 0, 0, 0, []), 1), ((19, 42, 80, 0, []), 1), ((20, 30, 64, 0, []), 1), ((5, 3, 0, 1, []), 3), ((12, 0, 26, 0, []), 3)] 26 _ _ _ (by decide +kernel) ?_
    obtain ⟨g4, h⟩ := px_gd h
    refine And.intro g4 ?_
    rcases px_ite h with ⟨c5, h⟩ | ⟨c5, h⟩
    · refine And.intro (fun _ => ?_) (fun hn => absurd c5 hn)
      refine H [((2, 0, 0, 0, []), 1), ((17, 3, 41, 0, []), 3), ((1, 2, 0, 0, []), 1), ((0, 0, 0, 0, []), 1), ((20, 41, 20, 1, []), 1), ((2, 0, 0, 0, []), 1), ((17, 3, 32, 0, []), 3), ((17, 32, 33, 0, []), 3), ((0, 0, 0, 4, []), 1), ((10, 0, 0, 0, []), 1), ((19, 33, 6, 0, []), 1), ((0, 0, 0, 1, []), 1), ((6, 0, 0, 0, []), 1), ((20, 33, 6, 0, []), 1), ((5, 2, 0, (-1), []), 3), ((12, 0, 10, 0, []), 3), ((29, 3, 0, 0, []), 0)] 77 _ _ _ (by decide +kernel) ?_
      obtain ⟨g6, h⟩ := px_gd h
      refine And.intro g6 ?_
      refine And.intro (show (0 : Int) ≤ 0 ∧ (0 : Int) ≤ 1 from by decide) ?_
      refine And.intro (show (0 : Int) ≤ 4 ∧ (4 : Int) < 6 from by decide) ?_
      refine And.intro (show (0 : Int) ≤ 4 ∧ (4 : Int) < 6 from by decide) ?_
      exact hk_10 _ _ _ h
    · refine And.intro (fun hp => absurd hp c5) (fun _ => ?_)
      obtain ⟨g7, h⟩ := px_gd h
      refine And.intro g7 ?_
      obtain ⟨g8, h⟩ := px_gd h
      refine And.intro g8 ?_
      obtain ⟨g9, h⟩ := px_gd h
      refine And.intro g9 ?_
      exact ih _ _ _ _ h
theorem ok_Mach_undoDownTo_3_p10 {l : Launch} {rv : Int} {rσ : pS} {G : Nat → pL → List pV → pS → Prop} (H : px_R l 0 78 rv rσ G) : ∀ (n : Nat) (a1 a2 : Int) (σ : pS), f_Mach_undoDownTo_3_p10 n a1 a2 σ = some (rv, rσ) → G 10 [some (.inr 3), some (.inl a1), some (.inl a2), none] [] σ := by
  intro n
  induction n with
  | zero =>
    intro a1 a2 σ h
    unfold f_Mach_undoDownTo_3_p10 at h
    cases h
  | succ n ih =>
    intro a1 a2 σ h
    unfold f_Mach_undoDownTo_3_p10 at h
    refine H [((1, 2, 0, 0, []), 1), ((1, 1, 0, 0, []), 1), ((13, 2, 103, 0, []), 3), ((2, 0, 0, 0, []), 1), ((17, 3, 41, 0, []), 3), ((1, 2, 0, 0, []), 1), ((19, 41, 20, 0, []), 1), ((14, 0, 97, 0, []), 3), ((0, 0, 0, 0, []), 1), ((3, 3, 0, 0, []), 1)] 10 _ _ _ (by decide +kernel) ?_
    rcases px_ite h with ⟨c1, h⟩ | ⟨c1, h⟩
    · refine And.intro (fun _ => ?_) (fun hn => absurd c1 hn)
      refine H [((28, 0, 0, 0, []), 1)] 103 _ _ _ (by decide +kernel) ?_
      exact (Prod.mk.inj (Option.some.inj h)).2
    · refine And.intro (fun hp => absurd hp c1) (fun _ => ?_)
      obtain ⟨g2, h⟩ := px_gd h
      refine And.intro g2 ?_
      rcases px_ite h with ⟨c3, h⟩ | ⟨c3, h⟩
      · refine And.intro (fun _ => ?_) (fun hn => absurd c3 hn)
        refine H [((5, 2, 0, (-1), []), 3), ((12, 0, 10, 0, []), 3)] 97 _ _ _ (by decide +kernel) ?_
        exact ih _ _ _ h
      · refine And.intro (fun hp => absurd hp c3) (fun _ => ?_)
        exact ok_Mach_undoDownTo_3_p26 H ih _ _ _ _ _ h
theorem ok_Mach_undoDownTo_3_w {l : Launch} {rv : Int} {rσ : pS} {G : Nat → pL → List pV → pS → Prop} (H : px_R l 0 78 rv rσ G) : ∀ (a1 : Int) (σ : pS), f_Mach_undoDownTo_3 a1 σ = some (rv, rσ) → G 0 [some (.inr 3), some (.inl a1), none, none] [] σ := by
  intro a1 σ h
  unfold f_Mach_undoDownTo_3 at h
  refine H [((2, 0, 0, 0, []), 1), ((17, 3, 4, 0, []), 3), ((16, 4, 11, 0, []), 3), ((0, 0, 0, 1, []), 1), ((6, 1, 0, 0, []), 1), ((3, 2, 0, 0, []), 1)] 0 _ _ _ (by decide +kernel) ?_
  exact ok_Mach_undoDownTo_3_p10 H _ _ _ _ h
theorem ok_Mach_undoDownTo_3 {l : Launch} {a1 : Int} {σ : pS} {v : Int} {σ1 : pS} (h : f_Mach_undoDownTo_3 a1 σ = some (v, σ1)) : Con l 0 78 [.inr 3, .inl a1] σ v σ1 := Con_mk 2 4 rfl (by decide +kernel) (fun _ H => ok_Mach_undoDownTo_3_w H _ _ h)
theorem ok_Mach_makeWait_3_w {l : Launch} {rv : Int} {rσ : pS} {G : Nat → pL → List pV → pS → Prop} (H : px_R l 1 77 rv rσ G) : ∀ (a1 : Int) (σ : pS), f_Mach_makeWait_3 a1 σ = some (rv, rσ) → G 0 [some (.inr 3), some (.inl a1)] [] σ := by
  intro a1 σ h
  unfold f_Mach_makeWait_3 at h
  refine H [((2, 0, 0, 0, []), 1), ((17, 3, 39, 0, []), 3), ((1, 1, 0, 0, []), 1), ((0, 0, 0, 0, []), 1), ((20, 39, 20, 0, []), 1), ((2, 0, 0, 0, []), 1), ((17, 3, 32, 0, []), 3), ((17, 32, 35, 0, []), 3), ((1, 1, 0, 0, []), 1), ((10, 0, 0, 0, []), 1), ((19, 35, 20, 0, []), 1), ((0, 0, 0, 1, []), 1), ((6, 0, 0, 0, []), 1), ((20, 35, 20, 0, []), 1), ((2, 0, 0, 0, []), 1), ((17, 3, 32, 0, []), 3), ((17, 32, 33, 0, []), 3), ((0, 0, 0, 2, []), 1), ((10, 0, 0, 0, []), 1), ((19, 33, 6, 0, []), 1), ((0, 0, 0, 1, []), 1), ((6, 0, 0, 0, []), 1), ((20, 33, 6, 0, []), 1), ((2, 0, 0, 0, []), 1), ((17, 3, 41, 0, []), 3), ((1, 1, 0, 0, []), 1), ((19, 41, 20, 0, []), 1), ((14, 0, 47, 0, []), 3), ((2, 0, 0, 0, []), 1), ((1, 1, 0, 0, []), 1), ((23, 78, 1, 0, [(0, 3)]), 3), ((28, 0, 0, 0, []), 1)] 0 _ _ _ (by decide +kernel) ?_
  obtain ⟨g1, h⟩ := px_gd h
  refine And.intro g1 ?_
  obtain ⟨g2, h⟩ := px_gd h
  refine And.intro g2 ?_
  obtain ⟨g3, h⟩ := px_gd h
  refine And.intro g3 ?_
  refine And.intro (show (0 : Int) ≤ 2 ∧ (2 : Int) < 6 from by decide) ?_
  refine And.intro (show (0 : Int) ≤ 2 ∧ (2 : Int) < 6 from by decide) ?_
  obtain ⟨g4, h⟩ := px_gd h
  refine And.intro g4 ?_
  rcases px_ite h with ⟨c5, h⟩ | ⟨c5, h⟩
  · refine And.intro (fun _ => ?_) (fun hn => absurd c5 hn)
    refine H [((28, 0, 0, 0, []), 1)] 47 _ _ _ (by decide +kernel) ?_
    exact (Prod.mk.inj (Option.some.inj h)).2
  · refine And.intro (fun hp => absurd hp c5) (fun _ => ?_)
    obtain ⟨⟨vq6, σq6⟩, hq6, h⟩ := px_bind h
    dsimp only at h
    refine Exists.intro 0 (Exists.intro vq6 (Exists.intro σq6 (And.intro (Nat.le_of_ble_eq_true rfl) (And.intro (ok_Mach_undoDownTo_3 hq6) ?_))))
    exact (Prod.mk.inj (Option.some.inj h)).2
theorem ok_Mach_makeWait_3 {l : Launch} {a1 : Int} {σ : pS} {v : Int} {σ1 : pS} (h : f_Mach_makeWait_3 a1 σ = some (v, σ1)) : Con l 1 77 [.inr 3, .inl a1] σ v σ1 := Con_mk 2 2 rfl (by decide +kernel) (fun _ H => ok_Mach_makeWait_3_w H _ _ h)
theorem ok_Mach_dependsOn_3_p55 {l : Launch} {rv : Int} {rσ : pS} {G : Nat → pL → List pV → pS → Prop} (H : px_R l 0 79 rv rσ G) : ∀ (n : Nat) (a1 a2 a3 : Int) (σ : pS), f_Mach_dependsOn_3_p55 n a1 a2 a3 σ = some (rv, rσ) → G 55 [some (.inr 3), some (.inl a1), some (.inl a2), some (.inl a3)] [] σ := by
  intro n
  induction n with
  | zero =>
    intro a1 a2 a3 σ h
    unfold f_Mach_dependsOn_3_p55 at h
    cases h
  | succ n ih =>
    intro a1 a2 a3 σ h
    unfold f_Mach_dependsOn_3_p55 at h
    refine H [((1, 3, 0, 0, []), 1), ((2, 0, 0, 0, []), 1), ((17, 3, 4, 0, []), 3), ((17, 4, 7, 0, []), 3), ((1, 1, 0, 0, []), 1), ((19, 7, 20, 0, []), 1), ((13, 3, 93, 0, []), 3), ((2, 0, 0, 0, []), 1), ((17, 3, 32, 0, []), 3), ((17, 32, 38, 0, []), 3), ((1, 1, 0, 0, []), 1), ((0, 0, 0, 4, []), 1), ((6, 2, 0, 0, []), 1), ((1, 3, 0, 0, []), 1), ((6, 0, 0, 0, []), 1), ((19, 38, 80, 0, []), 1), ((1, 2, 0, 0, []), 1), ((13, 1, 87, 0, []), 3), ((0, 0, 0, 1, []), 1), ((27, 1, 0, 0, []), 1)] 55 _ _ _ (by decide +kernel) ?_
    obtain ⟨g9, h⟩ := px_gd h
    refine And.intro g9 ?_
    rcases px_ite h with ⟨c10, h⟩ | ⟨c10, h⟩
    · refine And.intro (fun _ => ?_) (fun hn => absurd c10 hn)
      refine H [((0, 0, 0, 0, []), 1), ((27, 1, 0, 0, []), 1)] 93 _ _ _ (by decide +kernel) ?_
      refine And.intro (show (0 : Int) ≤ 0 ∧ (0 : Int) ≤ 1 from by decide) ?_
      exact Prod.mk.inj (Option.some.inj h)
    · refine And.intro (fun hp => absurd hp c10) (fun _ => ?_)
      obtain ⟨g11, h⟩ := px_gd h
      refine And.intro g11 ?_
      rcases px_ite h with ⟨c12, h⟩ | ⟨c12, h⟩
      · refine And.intro (fun hp => absurd c12 hp) (fun _ => ?_)
        refine And.intro (show (0 : Int) ≤ 1 ∧ (1 : Int) ≤ 1 from by decide) ?_
        exact Prod.mk.inj (Option.some.inj h)
      · refine And.intro (fun _ => ?_) (fun hn => absurd c12 hn)
        refine H [((5, 3, 0, 1, []), 3), ((12, 0, 55, 0, []), 3)] 87 _ _ _ (by decide +kernel) ?_
        exact ih _ _ _ _ h
theorem ok_Mach_dependsOn_3_w {l : Launch} {rv : Int} {rσ : pS} {G : Nat → pL → List pV → pS → Prop} (H : px_R l 0 79 rv rσ G) : ∀ (a1 a2 : Int) (σ : pS), f_Mach_dependsOn_3 a1 a2 σ = some (rv, rσ) → G 0 [some (.inr 3), some (.inl a1), some (.inl a2), none] [] σ := by
  intro a1 a2 σ h
  unfold f_Mach_dependsOn_3 at h
  refine H [((2, 0, 0, 0, []), 1), ((17, 3, 4, 0, []), 3), ((17, 4, 12, 0, []), 3), ((1, 1, 0, 0, []), 1), ((19, 12, 20, 0, []), 1), ((1, 2, 0, 0, []), 1), ((13, 0, 26, 0, []), 3), ((2, 0, 0, 0, []), 1), ((17, 3, 4, 0, []), 3), ((17, 4, 13, 0, []), 3), ((1, 1, 0, 0, []), 1), ((19, 13, 20, 0, []), 1), ((1, 2, 0, 0, []), 1), ((13, 1, 28, 0, []), 3), ((0, 0, 0, 1, []), 1), ((27, 1, 0, 0, []), 1)] 0 _ _ _ (by decide +kernel) ?_
  obtain ⟨g1, h⟩ := px_gd h
  refine And.intro g1 ?_
  rcases px_ite h with ⟨c2, h⟩ | ⟨c2, h⟩
  · refine And.intro (fun _ => ?_) (fun hn => absurd c2 hn)
    refine H [((0, 0, 0, 1, []), 1), ((27, 1, 0, 0, []), 1)] 26 _ _ _ (by decide +kernel) ?_
    refine And.intro (show (0 : Int) ≤ 1 ∧ (1 : Int) ≤ 1 from by decide) ?_
    exact Prod.mk.inj (Option.some.inj h)
  · refine And.intro (fun hp => absurd hp c2) (fun _ => ?_)
    obtain ⟨g3, h⟩ := px_gd h
    refine And.intro g3 ?_
    rcases px_ite h with ⟨c4, h⟩ | ⟨c4, h⟩
    · refine And.intro (fun hp => absurd c4 hp) (fun _ => ?_)
      refine And.intro (show (0 : Int) ≤ 1 ∧ (1 : Int) ≤ 1 from by decide) ?_
      exact Prod.mk.inj (Option.some.inj h)
    · refine And.intro (fun _ => ?_) (fun hn => absurd c4 hn)
      refine H [((2, 0, 0, 0, []), 1), ((17, 3, 4, 0, []), 3), ((17, 4, 5, 0, []), 3), ((1, 1, 0, 0, []), 1), ((19, 5, 20, 0, []), 1), ((0, 0, 0, 2, []), 1), ((13, 1, 51, 0, []), 3), ((2, 0, 0, 0, []), 1), ((17, 3, 39, 0, []), 3), ((1, 1, 0, 0, []), 1), ((19, 39, 20, 0, []), 1), ((0, 0, 0, 2, []), 1), ((13, 0, 53, 0, []), 3), ((0, 0, 0, 0, []), 1), ((27, 1, 0, 0, []), 1)] 28 _ _ _ (by decide +kernel) ?_
      obtain ⟨g5, h⟩ := px_gd h
      refine And.intro g5 ?_
      rcases px_ite h with ⟨c6, h⟩ | ⟨c6, h⟩
      · refine And.intro (fun hp => absurd c6 hp) (fun _ => ?_)
        obtain ⟨g7, h⟩ := px_gd h
        refine And.intro g7 ?_
        rcases px_ite h with ⟨c8, h⟩ | ⟨c8, h⟩
        · refine And.intro (fun _ => ?_) (fun hn => absurd c8 hn)
          refine H [((0, 0, 0, 0, []), 1), ((3, 3, 0, 0, []), 1)] 53 _ _ _ (by decide +kernel) ?_
          exact ok_Mach_dependsOn_3_p55 H _ _ _ _ _ h
        · refine And.intro (fun hp => absurd hp c8) (fun _ => ?_)
          refine And.intro (show (0 : Int) ≤ 0 ∧ (0 : Int) ≤ 1 from by decide) ?_
          exact Prod.mk.inj (Option.some.inj h)
      · refine And.intro (fun _ => ?_) (fun hn => absurd c6 hn)
        refine H [((0, 0, 0, 0, []), 1), ((27, 1, 0, 0, []), 1)] 51 _ _ _ (by decide +kernel) ?_
        refine And.intro (show (0 : Int) ≤ 0 ∧ (0 : Int) ≤ 1 from by decide) ?_
        exact Prod.mk.inj (Option.some.inj h)
theorem ok_Mach_dependsOn_3 {l : Launch} {a1 a2 : Int} {σ : pS} {v : Int} {σ1 : pS} (h : f_Mach_dependsOn_3 a1 a2 σ = some (v, σ1)) : Con l 0 79 [.inr 3, .inl a1, .inl a2] σ v σ1 := Con_mk 3 4 rfl (by decide +kernel) (fun _ H => ok_Mach_dependsOn_3_w H _ _ _ h)
theorem ok_Mach_replay_3_p37 {l : Launch} {rv : Int} {rσ : pS} {G : Nat → pL → List pV → pS → Prop} (H : px_R l 2 76 rv rσ G) {k_16 : Int → Int → pS → Option (Int × pS)} (hk_16 : ∀ (a2 a3 : Int) (σ : pS), k_16 a2 a3 σ = some (rv, rσ) → G 16 [some (.inr 3), none, some (.inl a2), some (.inl a3), none] [] σ) : ∀ (n : Nat) (a2 a3 a4 : Int) (σ : pS), f_Mach_replay_3_p37 k_16 n a2 a3 a4 σ = some (rv, rσ) → G 37 [some (.inr 3), none, some (.inl a2), some (.inl a3), some (.inl a4)] [] σ := by
  intro n
  induction n with
  | zero =>
    intro a2 a3 a4 σ h
    unfold f_Mach_replay_3_p37 at h
    cases h
  | succ n ih =>
    intro a2 a3 a4 σ h
    unfold f_Mach_replay_3_p37 at h
    refine H [((1, 4, 0, 0, []), 2), ((2, 0, 0, 0, []), 1), ((17, 3, 4, 0, []), 3), ((16, 4, 11, 0, []), 3), ((13, 3, 103, 0, []), 3), ((2, 0, 0, 0, []), 1), ((17, 3, 39, 0, []), 3), ((1, 4, 0, 0, []), 2), ((19, 39, 20, 0, []), 1), ((14, 0, 97, 0, []), 3), ((1, 2, 0, 0, []), 1), ((0, 0, 0, 20, []), 2), ((13, 3, 97, 0, []), 3), ((2, 0, 0, 0, []), 1), ((1, 4, 0, 0, []), 2), ((2, 0, 0, 0, []), 1), ((17, 3, 44, 0, []), 3), ((1, 3, 0, 0, []), 1), ((19, 44, 20, 0, []), 1), ((23, 79, 2, 1, [(0, 3)]), 3), ((14, 0, 97, 0, []), 3), ((2, 0, 0, 0, []), 1), ((1, 4, 0, 0, []), 2), ((23, 77, 1, 0, [(0, 3)]), 3), ((2, 0, 0, 0, []), 1), ((17, 3, 44, 0, []), 3), ((1, 2, 0, 0, []), 1), ((1, 4, 0, 0, []), 2), ((20, 44, 20, 0, []), 1), ((5, 2, 0, 1, []), 3), ((5, 4, 0, 1, []), 3), ((12, 0, 37, 0, []), 3)] 37 _ _ _ (by decide +kernel) ?_
    rcases px_ite h with ⟨c5, h⟩ | ⟨c5, h⟩
    · refine And.intro (fun _ => ?_) (fun hn => absurd c5 hn)
      refine H [((5, 3, 0, 1, []), 3), ((12, 0, 16, 0, []), 3), ((29, 4, 0, 0, []), 0)] 103 _ _ _ (by decide +kernel) ?_
      exact hk_16 _ _ _ h
    · refine And.intro (fun hp => absurd hp c5) (fun _ => ?_)
      obtain ⟨g6, h⟩ := px_gd h
      refine And.intro g6 ?_
      rcases px_ite h with ⟨c7, h⟩ | ⟨c7, h⟩
      · refine And.intro (fun _ => ?_) (fun hn => absurd c7 hn)
        refine H [((5, 4, 0, 1, []), 3), ((12, 0, 37, 0, []), 3)] 97 _ _ _ (by decide +kernel) ?_
        exact ih _ _ _ _ h
      · refine And.intro (fun hp => absurd hp c7) (fun _ => ?_)
        rcases px_ite h with ⟨c8, h⟩ | ⟨c8, h⟩
        · refine And.intro (fun _ => ?_) (fun hn => absurd c8 hn)
          refine H [((5, 4, 0, 1, []), 3), ((12, 0, 37, 0, []), 3)] 97 _ _ _ (by decide +kernel) ?_
          exact ih _ _ _ _ h
        · refine And.intro (fun hp => absurd hp c8) (fun _ => ?_)
          obtain ⟨g9, h⟩ := px_gd h
          refine And.intro g9 ?_
          obtain ⟨⟨vq10, σq10⟩, hq10, h⟩ := px_bind h
          dsimp only at h
          refine Exists.intro 0 (Exists.intro vq10 (Exists.intro σq10 (And.intro (Nat.le_of_ble_eq_true rfl) (And.intro (ok_Mach_dependsOn_3 hq10) ?_))))
          rcases px_ite h with ⟨c11, h⟩ | ⟨c11, h⟩
          · refine And.intro (fun _ => ?_) (fun hn => absurd c11 hn)
            refine H [((5, 4, 0, 1, []), 3), ((12, 0, 37, 0, []), 3)] 97 _ _ _ (by decide +kernel) ?_
            exact ih _ _ _ _ h
          · refine And.intro (fun hp => absurd hp c11) (fun _ => ?_)
            obtain ⟨⟨vq12, σq12⟩, hq12, h⟩ := px_bind h
            dsimp only at h
            refine Exists.intro 1 (Exists.intro vq12 (Exists.intro σq12 (And.intro (Nat.le_of_ble_eq_true rfl) (And.intro (ok_Mach_makeWait_3 hq12) ?_))))
            obtain ⟨g13, h⟩ := px_gd h
            refine And.intro g13 ?_
            exact ih _ _ _ _ h
theorem ok_Mach_replay_3_p16 {l : Launch} {rv : Int} {rσ : pS} {G : Nat → pL → List pV → pS → Prop} (H : px_R l 2 76 rv rσ G) : ∀ (n : Nat) (a2 a3 : Int) (σ : pS), f_Mach_replay_3_p16 n a2 a3 σ = some (rv, rσ) → G 16 [some (.inr 3), none, some (.inl a2), some (.inl a3), none] [] σ := by
  intro n
  induction n with
  | zero =>
    intro a2 a3 σ h
    unfold f_Mach_replay_3_p16 at h
    cases h
  | succ n ih =>
    intro a2 a3 σ h
    unfold f_Mach_replay_3_p16 at h
    refine H [((1, 3, 0, 0, []), 1), ((1, 2, 0, 0, []), 1), ((13, 3, 109, 0, []), 3), ((1, 3, 0, 0, []), 1), ((0, 0, 0, 20, []), 2), ((13, 3, 109, 0, []), 3), ((2, 0, 0, 0, []), 1), ((17, 3, 44, 0, []), 3), ((1, 3, 0, 0, []), 1), ((19, 44, 20, 0, []), 1), ((0, 0, 0, 1, []), 1), ((6, 0, 0, 0, []), 1), ((3, 4, 0, 0, []), 2)] 16 _ _ _ (by decide +kernel) ?_
    rcases px_ite h with ⟨c2, h⟩ | ⟨c2, h⟩
    · refine And.intro (fun _ => ?_) (fun hn => absurd c2 hn)
      refine H [((28, 0, 0, 0, []), 1)] 109 _ _ _ (by decide +kernel) ?_
      exact (Prod.mk.inj (Option.some.inj h)).2
    · refine And.intro (fun hp => absurd hp c2) (fun _ => ?_)
      rcases px_ite h with ⟨c3, h⟩ | ⟨c3, h⟩
      · refine And.intro (fun _ => ?_) (fun hn => absurd c3 hn)
        refine H [((28, 0, 0, 0, []), 1)] 109 _ _ _ (by decide +kernel) ?_
        exact (Prod.mk.inj (Option.some.inj h)).2
      · refine And.intro (fun hp => absurd hp c3) (fun _ => ?_)
        obtain ⟨g4, h⟩ := px_gd h
        refine And.intro g4 ?_
        exact ok_Mach_replay_3_p37 H ih _ _ _ _ _ h
theorem ok_Mach_replay_3_w {l : Launch} {rv : Int} {rσ : pS} {G : Nat → pL → List pV → pS → Prop} (H : px_R l 2 76 rv rσ G) : ∀ (a1 : Int) (σ : pS), f_Mach_replay_3 a1 σ = some (rv, rσ) → G 0 [some (.inr 3), some (.inl a1), none, none, none] [] σ := by
  intro a1 σ h
  unfold f_Mach_replay_3 at h
  refine H [((2, 0, 0, 0, []), 1), ((1, 1, 0, 0, []), 1), ((23, 77, 1, 0, [(0, 3)]), 3), ((2, 0, 0, 0, []), 1), ((17, 3, 44, 0, []), 3), ((0, 0, 0, 0, []), 1), ((1, 1, 0, 0, []), 1), ((20, 44, 20, 0, []), 1), ((0, 0, 0, 1, []), 1), ((3, 2, 0, 0, []), 1), ((0, 0, 0, 0, []), 1), ((3, 3, 0, 0, []), 1), ((29, 1, 0, 0, []), 0)] 0 _ _ _ (by decide +kernel) ?_
  obtain ⟨⟨vq1, σq1⟩, hq1, h⟩ := px_bind h
  dsimp only at h
  refine Exists.intro 1 (Exists.intro vq1 (Exists.intro σq1 (And.intro (Nat.le_of_ble_eq_true rfl) (And.intro (ok_Mach_makeWait_3 hq1) ?_))))
  refine And.intro (show (0 : Int) ≤ 0 ∧ (0 : Int) < 20 from by decide) ?_
  exact ok_Mach_replay_3_p16 H _ _ _ _ h
theorem ok_Mach_replay_3 {l : Launch} {a1 : Int} {σ : pS} {v : Int} {σ1 : pS} (h : f_Mach_replay_3 a1 σ = some (v, σ1)) : Con l 2 76 [.inr 3, .inl a1] σ v σ1 := Con_mk 2 5 rfl (by decide +kernel) (fun _ H => ok_Mach_replay_3_w H _ _ h)
theorem ok_X_covers_w {l : Launch} {rv : Int} {rσ : pS} {G : Nat → pL → List pV → pS → Prop} (H : px_R l 0 70 rv rσ G) : ∀ (a0 a1 a2 : Int) (σ : pS), f_X_covers a0 a1 a2 σ = some (rv, rσ) → G 0 [some (.inl a0), some (.inl a1), some (.inl a2)] [] σ := by
  intro a0 a1 a2 σ h
  unfold f_X_covers at h
  refine H [((1, 2, 0, 0, []), 1), ((1, 0, 0, 0, []), 1), ((6, 1, 0, 0, []), 1), ((0, 0, 0, 63, []), 2), ((6, 3, 0, 0, []), 1), ((1, 1, 0, 0, []), 1), ((13, 3, 14, 0, []), 3), ((0, 0, 0, 1, []), 1), ((12, 0, 15, 0, []), 3), ((27, 1, 0, 0, []), 1)] 0 _ _ _ (by decide +kernel) ?_
  rcases px_ite h with ⟨c1, h⟩ | ⟨c1, h⟩
  · refine And.intro (fun _ => ?_) (fun hn => absurd c1 hn)
    refine H [((0, 0, 0, 0, []), 1), ((27, 1, 0, 0, []), 1)] 14 _ _ _ (by decide +kernel) ?_
    refine And.intro (show (0 : Int) ≤ 0 ∧ (0 : Int) ≤ 1 from by decide) ?_
    exact Prod.mk.inj (Option.some.inj h)
  · refine And.intro (fun hp => absurd hp c1) (fun _ => ?_)
    refine And.intro (show (0 : Int) ≤ 1 ∧ (1 : Int) ≤ 1 from by decide) ?_
    exact Prod.mk.inj (Option.some.inj h)
theorem ok_X_covers {l : Launch} {a0 a1 a2 : Int} {σ : pS} {v : Int} {σ1 : pS} (h : f_X_covers a0 a1 a2 σ = some (v, σ1)) : Con l 0 70 [.inl a0, .inl a1, .inl a2] σ v σ1 := Con_mk 3 3 rfl (by decide +kernel) (fun _ H => ok_X_covers_w H _ _ _ _ h)
theorem ok_Mach_tookTooOld_3_p2 {l : Launch} {rv : Int} {rσ : pS} {G : Nat → pL → List pV → pS → Prop} (H : px_R l 1 74 rv rσ G) : ∀ (n : Nat) (a1 a2 a3 : Int) (σ : pS), f_Mach_tookTooOld_3_p2 n a1 a2 a3 σ = some (rv, rσ) → G 2 [some (.inr 3), some (.inl a1), some (.inl a2), some (.inl a3), none] [] σ := by
  intro n
  induction n with
  | zero =>
    intro a1 a2 a3 σ h
    unfold f_Mach_tookTooOld_3_p2 at h
    cases h
  | succ n ih =>
    intro a1 a2 a3 σ h
    unfold f_Mach_tookTooOld_3_p2 at h
    refine H [((1, 3, 0, 0, []), 1), ((2, 0, 0, 0, []), 1), ((17, 3, 4, 0, []), 3), ((17, 4, 7, 0, []), 3), ((1, 1, 0, 0, []), 1), ((19, 7, 20, 0, []), 1), ((13, 3, 82, 0, []), 3), ((2, 0, 0, 0, []), 1), ((17, 3, 32, 0, []), 3), ((17, 32, 37, 0, []), 3), ((1, 1, 0, 0, []), 1), ((19, 37, 20, 0, []), 1), ((1, 3, 0, 0, []), 1), ((6, 0, 0, 0, []), 1), ((0, 0, 0, 63, []), 2), ((6, 3, 0, 0, []), 1), ((3, 4, 0, 0, []), 2), ((2, 0, 0, 0, []), 1), ((17, 3, 32, 0, []), 3), ((17, 32, 38, 0, []), 3), ((1, 1, 0, 0, []), 1), ((0, 0, 0, 4, []), 1), ((6, 2, 0, 0, []), 1), ((1, 3, 0, 0, []), 1), ((6, 0, 0, 0, []), 1), ((19, 38, 80, 0, []), 1), ((1, 2, 0, 0, []), 1), ((13, 3, 76, 0, []), 3), ((2, 0, 0, 0, []), 1), ((17, 3, 32, 0, []), 3), ((17, 32, 37, 0, []), 3), ((1, 2, 0, 0, []), 1), ((19, 37, 20, 0, []), 1), ((2, 0, 0, 0, []), 1), ((17, 3, 4, 0, []), 3), ((17, 4, 7, 0, []), 3), ((1, 2, 0, 0, []), 1), ((19, 7, 20, 0, []), 1), ((1, 4, 0, 0, []), 2), ((24, 70, 3, 1, []), 3), ((14, 0, 76, 0, []), 3), ((0, 0, 0, 1, []), 1), ((27, 1, 0, 0, []), 1)] 2 _ _ _ (by decide +kernel) ?_
    obtain ⟨g1, h⟩ := px_gd h
    refine And.intro g1 ?_
    rcases px_ite h with ⟨c2, h⟩ | ⟨c2, h⟩
    · refine And.intro (fun _ => ?_) (fun hn => absurd c2 hn)
      refine H [((0, 0, 0, 0, []), 1), ((27, 1, 0, 0, []), 1)] 82 _ _ _ (by decide +kernel) ?_
      refine And.intro (show (0 : Int) ≤ 0 ∧ (0 : Int) ≤ 1 from by decide) ?_
      exact Prod.mk.inj (Option.some.inj h)
    · refine And.intro (fun hp => absurd hp c2) (fun _ => ?_)
      obtain ⟨g3, h⟩ := px_gd h
      refine And.intro g3 ?_
      obtain ⟨g4, h⟩ := px_gd h
      refine And.intro g4 ?_
      rcases px_ite h with ⟨c5, h⟩ | ⟨c5, h⟩
      · refine And.intro (fun _ => ?_) (fun hn => absurd c5 hn)
        refine H [((5, 3, 0, 1, []), 3), ((12, 0, 2, 0, []), 3), ((29, 4, 0, 0, []), 0)] 76 _ _ _ (by decide +kernel) ?_
        exact ih _ _ _ _ h
      · refine And.intro (fun hp => absurd hp c5) (fun _ => ?_)
        obtain ⟨g6, h⟩ := px_gd h
        refine And.intro g6 ?_
        obtain ⟨g7, h⟩ := px_gd h
        refine And.intro g7 ?_
        obtain ⟨⟨vq8, σq8⟩, hq8, h⟩ := px_bind h
        dsimp only at h
        refine Exists.intro 0 (Exists.intro vq8 (Exists.intro σq8 (And.intro (Nat.le_of_ble_eq_true rfl) (And.intro (ok_X_covers hq8) ?_))))
        rcases px_ite h with ⟨c9, h⟩ | ⟨c9, h⟩
        · refine And.intro (fun _ => ?_) (fun hn => absurd c9 hn)
          refine H [((5, 3, 0, 1, []), 3), ((12, 0, 2, 0, []), 3), ((29, 4, 0, 0, []), 0)] 76 _ _ _ (by decide +kernel) ?_
          exact ih _ _ _ _ h
        · refine And.intro (fun hp => absurd hp c9) (fun _ => ?_)
          refine And.intro (show (0 : Int) ≤ 1 ∧ (1 : Int) ≤ 1 from by decide) ?_
          exact Prod.mk.inj (Option.some.inj h)
theorem ok_Mach_tookTooOld_3_w {l : Launch} {rv : Int} {rσ : pS} {G : Nat → pL → List pV → pS → Prop} (H : px_R l 1 74 rv rσ G) : ∀ (a1 a2 : Int) (σ : pS), f_Mach_tookTooOld_3 a1 a2 σ = some (rv, rσ) → G 0 [some (.inr 3), some (.inl a1), some (.inl a2), none, none] [] σ := by
  intro a1 a2 σ h
  unfold f_Mach_tookTooOld_3 at h
  refine H [((0, 0, 0, 0, []), 1), ((3, 3, 0, 0, []), 1)] 0 _ _ _ (by decide +kernel) ?_
  exact ok_Mach_tookTooOld_3_p2 H _ _ _ _ _ h
theorem ok_Mach_tookTooOld_3 {l : Launch} {a1 a2 : Int} {σ : pS} {v : Int} {σ1 : pS} (h : f_Mach_tookTooOld_3 a1 a2 σ = some (v, σ1)) : Con l 1 74 [.inr 3, .inl a1, .inl a2] σ v σ1 := Con_mk 3 5 rfl (by decide +kernel) (fun _ H => ok_Mach_tookTooOld_3_w H _ _ _ h)
theorem ok_State_melt_28_p57 {l : Launch} {rv : Int} {rσ : pS} {G : Nat → pL → List pV → pS → Prop} (H : px_R l 1 75 rv rσ G) : ∀ (a1 a2 a3 : Int) (σ : pS), f_State_melt_28_p57 a1 a2 a3 σ = some (rv, rσ) → G 57 [some (.inr 28), some (.inl a1), some (.inl a2), some (.inl a3)] [] σ := by
  intro a1 a2 a3 σ h
  unfold f_State_melt_28_p57 at h
  refine H [((1, 3, 0, 0, []), 1), ((0, 0, 0, (-1), []), 1), ((13, 1, 78, 0, []), 3), ((2, 0, 0, 0, []), 1), ((17, 28, 31, 0, []), 3), ((1, 1, 0, 0, []), 1), ((19, 31, 20, 0, []), 1), ((2, 0, 0, 0, []), 1), ((17, 28, 31, 0, []), 3), ((1, 2, 0, 0, []), 1), ((19, 31, 20, 0, []), 1), ((25, 1, 0, 0, []), 3), ((3, 3, 0, 0, []), 1), ((2, 0, 0, 0, []), 1), ((17, 28, 31, 0, []), 3), ((1, 1, 0, 0, []), 1), ((1, 3, 0, 0, []), 1), ((20, 31, 20, 0, []), 1), ((2, 0, 0, 0, []), 1), ((17, 28, 31, 0, []), 3), ((1, 2, 0, 0, []), 1), ((1, 3, 0, 0, []), 1), ((20, 31, 20, 0, []), 1), ((28, 0, 0, 0, []), 1)] 57 _ _ _ (by decide +kernel) ?_
  rcases px_ite h with ⟨c5, h⟩ | ⟨c5, h⟩
  · refine And.intro (fun hp => absurd c5 hp) (fun _ => ?_)
    obtain ⟨g8, h⟩ := px_gd h
    refine And.intro g8 ?_
    obtain ⟨g9, h⟩ := px_gd h
    refine And.intro g9 ?_
    obtain ⟨g10, h⟩ := px_gd h
    refine And.intro g10 ?_
    obtain ⟨g11, h⟩ := px_gd h
    refine And.intro g11 ?_
    exact (Prod.mk.inj (Option.some.inj h)).2
  · refine And.intro (fun _ => ?_) (fun hn => absurd c5 hn)
    refine H [((2, 0, 0, 0, []), 1), ((17, 28, 31, 0, []), 3), ((1, 1, 0, 0, []), 1), ((1, 3, 0, 0, []), 1), ((20, 31, 20, 0, []), 1), ((2, 0, 0, 0, []), 1), ((17, 28, 31, 0, []), 3), ((1, 2, 0, 0, []), 1), ((1, 3, 0, 0, []), 1), ((20, 31, 20, 0, []), 1), ((28, 0, 0, 0, []), 1)] 78 _ _ _ (by decide +kernel) ?_
    obtain ⟨g6, h⟩ := px_gd h
    refine And.intro g6 ?_
    obtain ⟨g7, h⟩ := px_gd h
    refine And.intro g7 ?_
    exact (Prod.mk.inj (Option.some.inj h)).2
theorem ok_State_melt_28_w {l : Launch} {rv : Int} {rσ : pS} {G : Nat → pL → List pV → pS → Prop} (H : px_R l 1 75 rv rσ G) : ∀ (a1 a2 : Int) (σ : pS), f_State_melt_28 a1 a2 σ = some (rv, rσ) → G 0 [some (.inr 28), some (.inl a1), some (.inl a2), none] [] σ := by
  intro a1 a2 σ h
  unfold f_State_melt_28 at h
  refine H [((2, 0, 0, 0, []), 1), ((17, 28, 31, 0, []), 3), ((1, 1, 0, 0, []), 1), ((19, 31, 20, 0, []), 1), ((2, 0, 0, 0, []), 1), ((17, 28, 31, 0, []), 3), ((1, 2, 0, 0, []), 1), ((19, 31, 20, 0, []), 1), ((25, 0, 0, 0, []), 3), ((3, 3, 0, 0, []), 1), ((2, 0, 0, 0, []), 1), ((17, 28, 31, 0, []), 3), ((1, 1, 0, 0, []), 1), ((19, 31, 20, 0, []), 1), ((0, 0, 0, (-1), []), 1), ((13, 1, 57, 0, []), 3), ((2, 0, 0, 0, []), 1), ((17, 28, 31, 0, []), 3), ((1, 2, 0, 0, []), 1), ((19, 31, 20, 0, []), 1), ((0, 0, 0, (-1), []), 1), ((13, 1, 57, 0, []), 3), ((2, 0, 0, 0, []), 1), ((16, 28, 3, 0, []), 3), ((3, 3, 0, 0, []), 1), ((2, 0, 0, 0, []), 1), ((2, 0, 0, 0, []), 1), ((16, 28, 3, 0, []), 3), ((0, 0, 0, 1, []), 1), ((6, 0, 0, 0, []), 1), ((0, 0, 0, 16, []), 2), ((7, 1, 0, 0, []), 1), ((18, 28, 3, 0, []), 3), ((12, 0, 78, 0, []), 3), ((2, 0, 0, 0, []), 1), ((17, 28, 31, 0, []), 3), ((1, 1, 0, 0, []), 1), ((1, 3, 0, 0, []), 1), ((20, 31, 20, 0, []), 1), ((2, 0, 0, 0, []), 1), ((17, 28, 31, 0, []), 3), ((1, 2, 0, 0, []), 1), ((1, 3, 0, 0, []), 1), ((20, 31, 20, 0, []), 1), ((28, 0, 0, 0, []), 1)] 0 _ _ _ (by decide +kernel) ?_
  obtain ⟨g1, h⟩ := px_gd h
  refine And.intro g1 ?_
  obtain ⟨g2, h⟩ := px_gd h
  refine And.intro g2 ?_
  obtain ⟨g3, h⟩ := px_gd h
  refine And.intro g3 ?_
  rcases px_ite h with ⟨c4, h⟩ | ⟨c4, h⟩
  · refine And.intro (fun hp => absurd c4 hp) (fun _ => ?_)
    obtain ⟨g12, h⟩ := px_gd h
    refine And.intro g12 ?_
    rcases px_ite h with ⟨c13, h⟩ | ⟨c13, h⟩
    · refine And.intro (fun hp => absurd c13 hp) (fun _ => ?_)
      refine And.intro (show (16 : Int) ≠ 0 from by decide) (fun r14 hr14 => ?_)
      replace hr14 : r14 = pRem (pw ((σ 28 3) + 1)) 16 := hr14.trans (px_dr_1 _ _)
      try rw [← hr14] at h
      obtain ⟨g15, h⟩ := px_gd h
      refine And.intro g15 ?_
      obtain ⟨g16, h⟩ := px_gd h
      refine And.intro g16 ?_
      exact (Prod.mk.inj (Option.some.inj h)).2
    · refine And.intro (fun _ => ?_) (fun hn => absurd c13 hn)
      exact ok_State_melt_28_p57 H _ _ _ _ h
  · refine And.intro (fun _ => ?_) (fun hn => absurd c4 hn)
    exact ok_State_melt_28_p57 H _ _ _ _ h
theorem ok_State_melt_28 {l : Launch} {a1 a2 : Int} {σ : pS} {v : Int} {σ1 : pS} (h : f_State_melt_28 a1 a2 σ = some (v, σ1)) : Con l 1 75 [.inr 28, .inl a1, .inl a2] σ v σ1 := Con_mk 3 4 rfl (by decide +kernel) (fun _ H => ok_State_melt_28_w H _ _ _ h)
theorem ok_Mach_lookBack_3_p76 {l : Launch} {rv : Int} {rσ : pS} {G : Nat → pL → List pV → pS → Prop} (H : px_R l 3 73 rv rσ G) : ∀ (n : Nat) (a2 a3 : Int) (σ : pS), f_Mach_lookBack_3_p76 n a2 a3 σ = some (rv, rσ) → G 76 [some (.inr 3), none, some (.inl a2), some (.inl a3)] [] σ := by
  intro n
  induction n with
  | zero =>
    intro a2 a3 σ h
    unfold f_Mach_lookBack_3_p76 at h
    cases h
  | succ n ih =>
    intro a2 a3 σ h
    unfold f_Mach_lookBack_3_p76 at h
    refine H [((1, 3, 0, 0, []), 1), ((1, 2, 0, 0, []), 1), ((13, 3, 124, 0, []), 3), ((2, 0, 0, 0, []), 1), ((17, 3, 32, 0, []), 3), ((17, 32, 33, 0, []), 3), ((0, 0, 0, 1, []), 1), ((10, 0, 0, 0, []), 1), ((19, 33, 6, 0, []), 1), ((0, 0, 0, 1, []), 1), ((6, 0, 0, 0, []), 1), ((20, 33, 6, 0, []), 1), ((2, 0, 0, 0, []), 1), ((17, 3, 39, 0, []), 3), ((2, 0, 0, 0, []), 1), ((17, 3, 43, 0, []), 3), ((1, 3, 0, 0, []), 1), ((19, 43, 20, 0, []), 1), ((19, 39, 20, 0, []), 1), ((14, 0, 118, 0, []), 3), ((2, 0, 0, 0, []), 1), ((2, 0, 0, 0, []), 1), ((17, 3, 43, 0, []), 3), ((1, 3, 0, 0, []), 1), ((19, 43, 20, 0, []), 1), ((23, 76, 1, 0, [(0, 3)]), 3), ((5, 3, 0, 1, []), 3), ((12, 0, 76, 0, []), 3)] 76 _ _ _ (by decide +kernel) ?_
    rcases px_ite h with ⟨c2, h⟩ | ⟨c2, h⟩
    · refine And.intro (fun _ => ?_) (fun hn => absurd c2 hn)
      refine H [((28, 0, 0, 0, []), 1)] 124 _ _ _ (by decide +kernel) ?_
      exact (Prod.mk.inj (Option.some.inj h)).2
    · refine And.intro (fun hp => absurd hp c2) (fun _ => ?_)
      refine And.intro (show (0 : Int) ≤ 1 ∧ (1 : Int) < 6 from by decide) ?_
      refine And.intro (show (0 : Int) ≤ 1 ∧ (1 : Int) < 6 from by decide) ?_
      obtain ⟨g3, h⟩ := px_gd h
      refine And.intro g3 ?_
      obtain ⟨g4, h⟩ := px_gd h
      refine And.intro g4 ?_
      rcases px_ite h with ⟨c5, h⟩ | ⟨c5, h⟩
      · refine And.intro (fun _ => ?_) (fun hn => absurd c5 hn)
        refine H [((5, 3, 0, 1, []), 3), ((12, 0, 76, 0, []), 3)] 118 _ _ _ (by decide +kernel) ?_
        exact ih _ _ _ h
      · refine And.intro (fun hp => absurd hp c5) (fun _ => ?_)
        obtain ⟨g6, h⟩ := px_gd h
        refine And.intro g6 ?_
        obtain ⟨⟨vq7, σq7⟩, hq7, h⟩ := px_bind h
        dsimp only at h
        refine Exists.intro 2 (Exists.intro vq7 (Exists.intro σq7 (And.intro (Nat.le_of_ble_eq_true rfl) (And.intro (ok_Mach_replay_3 hq7) ?_))))
        exact ih _ _ _ h
theorem ok_Mach_lookBack_3_p6 {l : Launch} {rv : Int} {rσ : pS} {G : Nat → pL → List pV → pS → Prop} (H : px_R l 3 73 rv rσ G) : ∀ (n : Nat) (a1 a2 a3 : Int) (σ : pS), f_Mach_lookBack_3_p6 n a1 a2 a3 σ = some (rv, rσ) → G 6 [some (.inr 3), some (.inl a1), some (.inl a2), some (.inl a3)] [] σ := by
  intro n
  induction n with
  | zero =>
    intro a1 a2 a3 σ h
    unfold f_Mach_lookBack_3_p6 at h
    cases h
  | succ n ih =>
    intro a1 a2 a3 σ h
    unfold f_Mach_lookBack_3_p6 at h
    refine H [((1, 3, 0, 0, []), 1), ((2, 0, 0, 0, []), 1), ((17, 3, 4, 0, []), 3), ((16, 4, 11, 0, []), 3), ((13, 3, 74, 0, []), 3), ((2, 0, 0, 0, []), 1), ((17, 3, 4, 0, []), 3), ((17, 4, 5, 0, []), 3), ((1, 3, 0, 0, []), 1), ((19, 5, 20, 0, []), 1), ((0, 0, 0, 2, []), 1), ((13, 1, 68, 0, []), 3), ((2, 0, 0, 0, []), 1), ((17, 3, 39, 0, []), 3), ((1, 3, 0, 0, []), 1), ((19, 39, 20, 0, []), 1), ((0, 0, 0, 2, []), 1), ((13, 1, 68, 0, []), 3), ((2, 0, 0, 0, []), 1), ((1, 3, 0, 0, []), 1), ((1, 1, 0, 0, []), 1), ((23, 74, 2, 1, [(0, 3)]), 3), ((14, 0, 68, 0, []), 3), ((2, 0, 0, 0, []), 1), ((17, 3, 43, 0, []), 3), ((1, 2, 0, 0, []), 1), ((1, 3, 0, 0, []), 1), ((20, 43, 20, 0, []), 1), ((5, 2, 0, 1, []), 3), ((2, 0, 0, 0, []), 1), ((17, 3, 28, 0, []), 3), ((1, 3, 0, 0, []), 1), ((1, 1, 0, 0, []), 1), ((23, 75, 2, 0, [(0, 28)]), 3), ((5, 3, 0, 1, []), 3), ((12, 0, 6, 0, []), 3)] 6 _ _ _ (by decide +kernel) ?_
    rcases px_ite h with ⟨c1, h⟩ | ⟨c1, h⟩
    · refine And.intro (fun _ => ?_) (fun hn => absurd c1 hn)
      refine H [((0, 0, 0, 0, []), 1), ((3, 3, 0, 0, []), 1), ((29, 1, 0, 0, []), 0)] 74 _ _ _ (by decide +kernel) ?_
      exact ok_Mach_lookBack_3_p76 H _ _ _ _ h
    · refine And.intro (fun hp => absurd hp c1) (fun _ => ?_)
      obtain ⟨g8, h⟩ := px_gd h
      refine And.intro g8 ?_
      rcases px_ite h with ⟨c9, h⟩ | ⟨c9, h⟩
      · refine And.intro (fun hp => absurd c9 hp) (fun _ => ?_)
        obtain ⟨g10, h⟩ := px_gd h
        refine And.intro g10 ?_
        rcases px_ite h with ⟨c11, h⟩ | ⟨c11, h⟩
        · refine And.intro (fun hp => absurd c11 hp) (fun _ => ?_)
          obtain ⟨⟨vq12, σq12⟩, hq12, h⟩ := px_bind h
          dsimp only at h
          refine Exists.intro 1 (Exists.intro vq12 (Exists.intro σq12 (And.intro (Nat.le_of_ble_eq_true rfl) (And.intro (ok_Mach_tookTooOld_3 hq12) ?_))))
          rcases px_ite h with ⟨c13, h⟩ | ⟨c13, h⟩
          · refine And.intro (fun _ => ?_) (fun hn => absurd c13 hn)
            refine H [((5, 3, 0, 1, []), 3), ((12, 0, 6, 0, []), 3)] 68 _ _ _ (by decide +kernel) ?_
            exact ih _ _ _ _ h
          · refine And.intro (fun hp => absurd hp c13) (fun _ => ?_)
            obtain ⟨g14, h⟩ := px_gd h
            refine And.intro g14 ?_
            obtain ⟨⟨vq15, σq15⟩, hq15, h⟩ := px_bind h
            dsimp only at h
            refine Exists.intro 1 (Exists.intro vq15 (Exists.intro σq15 (And.intro (Nat.le_of_ble_eq_true rfl) (And.intro (ok_State_melt_28 hq15) ?_))))
            exact ih _ _ _ _ h
        · refine And.intro (fun _ => ?_) (fun hn => absurd c11 hn)
          refine H [((5, 3, 0, 1, []), 3), ((12, 0, 6, 0, []), 3)] 68 _ _ _ (by decide +kernel) ?_
          exact ih _ _ _ _ h
      · refine And.intro (fun _ => ?_) (fun hn => absurd c9 hn)
        refine H [((5, 3, 0, 1, []), 3), ((12, 0, 6, 0, []), 3)] 68 _ _ _ (by decide +kernel) ?_
        exact ih _ _ _ _ h
theorem ok_Mach_lookBack_3_w {l : Launch} {rv : Int} {rσ : pS} {G : Nat → pL → List pV → pS → Prop} (H : px_R l 3 73 rv rσ G) : ∀ (a1 : Int) (σ : pS), f_Mach_lookBack_3 a1 σ = some (rv, rσ) → G 0 [some (.inr 3), some (.inl a1), none, none] [] σ := by
  intro a1 σ h
  unfold f_Mach_lookBack_3 at h
  refine H [((0, 0, 0, 0, []), 1), ((3, 2, 0, 0, []), 1), ((1, 1, 0, 0, []), 1), ((0, 0, 0, 1, []), 1), ((6, 0, 0, 0, []), 1), ((3, 3, 0, 0, []), 1)] 0 _ _ _ (by decide +kernel) ?_
  exact ok_Mach_lookBack_3_p6 H _ _ _ _ _ h
theorem ok_Mach_lookBack_3 {l : Launch} {a1 : Int} {σ : pS} {v : Int} {σ1 : pS} (h : f_Mach_lookBack_3 a1 σ = some (v, σ1)) : Con l 3 73 [.inr 3, .inl a1] σ v σ1 := Con_mk 2 4 rfl (by decide +kernel) (fun _ H => ok_Mach_lookBack_3_w H _ _ h)
