def f_Law_addStep_57 (a1 a2 : Int) (σ : pS) : Option (Int × pS) := if (σ 57 8) < 240 then (if 0 ≤ (σ 57 8) ∧ (σ 57 8) < 240 then (if 0 ≤ (σ 57 8) ∧ (σ 57 8) < 240 then (some (pw ((pw ((σ 57 8) + 1)) - 1), pU (pU (pU σ 61 ((σ 57 8).toNat) a1) 62 ((σ 57 8).toNat) a2) 57 8 (pw ((σ 57 8) + 1)))) else none) else none) else (some ((-1), σ))
theorem ok_Law_addStep_57_w {l : Launch} {rv : Int} {rσ : pS} {G : Nat → pL → List pV → pS → Prop} (H : px_R l 0 29 rv rσ G) : ∀ (a1 a2 : Int) (σ : pS), f_Law_addStep_57 a1 a2 σ = some (rv, rσ) → G 0 [some (.inr 57), some (.inl a1), some (.inl a2)] [] σ := by
  intro a1 a2 σ h
  unfold f_Law_addStep_57 at h
  refine H [((2, 0, 0, 0, []), 1), ((16, 57, 8, 0, []), 3), ((0, 0, 0, 240, []), 3), ((13, 2, 12, 0, []), 3), ((0, 0, 0, (-1), []), 1), ((27, 0, 0, 0, []), 1)] 0 _ _ _ (by decide +kernel) ?_
  rcases px_ite h with ⟨c1, h⟩ | ⟨c1, h⟩
  · refine And.intro (fun _ => ?_) (fun hn => absurd c1 hn)
    refine H [((2, 0, 0, 0, []), 1), ((17, 57, 61, 0, []), 3), ((2, 0, 0, 0, []), 1), ((16, 57, 8, 0, []), 3), ((1, 1, 0, 0, []), 1), ((20, 61, 240, 0, []), 1), ((2, 0, 0, 0, []), 1), ((17, 57, 62, 0, []), 3), ((2, 0, 0, 0, []), 1), ((16, 57, 8, 0, []), 3), ((1, 2, 0, 0, []), 1), ((20, 62, 240, 0, []), 1), ((2, 0, 0, 0, []), 1), ((9, 0, 0, 0, []), 1), ((16, 57, 8, 0, []), 3), ((0, 0, 0, 1, []), 1), ((6, 0, 0, 0, []), 1), ((18, 57, 8, 0, []), 3), ((2, 0, 0, 0, []), 1), ((16, 57, 8, 0, []), 3), ((0, 0, 0, 1, []), 1), ((6, 1, 0, 0, []), 1), ((27, 0, 0, 0, []), 1)] 12 _ _ _ (by decide +kernel) ?_
    obtain ⟨g2, h⟩ := px_gd h
    refine And.intro g2 ?_
    obtain ⟨g3, h⟩ := px_gd h
    refine And.intro g3 ?_
    exact Prod.mk.inj (Option.some.inj h)
  · refine And.intro (fun hp => absurd hp c1) (fun _ => ?_)
    exact Prod.mk.inj (Option.some.inj h)
theorem ok_Law_addStep_57 {l : Launch} {a1 a2 : Int} {σ : pS} {v : Int} {σ1 : pS} (h : f_Law_addStep_57 a1 a2 σ = some (v, σ1)) : Con l 0 29 [.inr 57, .inl a1, .inl a2] σ v σ1 := Con_mk 3 3 rfl (by decide +kernel) (fun _ H => ok_Law_addStep_57_w H _ _ _ h)
def f_Law_skipToHere_57 (a1 : Int) (σ : pS) : Option (Int × pS) := if a1 < 0 then (some (0, σ)) else (if 240 ≤ a1 then (some (0, σ)) else (if 0 ≤ a1 ∧ a1 < 240 then (some (0, pU σ 62 (a1.toNat) (σ 57 8))) else none))
theorem ok_Law_skipToHere_57_w {l : Launch} {rv : Int} {rσ : pS} {G : Nat → pL → List pV → pS → Prop} (H : px_R l 0 35 rv rσ G) : ∀ (a1 : Int) (σ : pS), f_Law_skipToHere_57 a1 σ = some (rv, rσ) → G 0 [some (.inr 57), some (.inl a1)] [] σ := by
  intro a1 σ h
  unfold f_Law_skipToHere_57 at h
  refine H [((1, 1, 0, 0, []), 1), ((14, 2, 21, 0, []), 3), ((1, 1, 0, 0, []), 1), ((0, 0, 0, 240, []), 3), ((13, 3, 21, 0, []), 3), ((2, 0, 0, 0, []), 1), ((17, 57, 62, 0, []), 3), ((1, 1, 0, 0, []), 1), ((2, 0, 0, 0, []), 1), ((16, 57, 8, 0, []), 3), ((20, 62, 240, 0, []), 1), ((28, 0, 0, 0, []), 1)] 0 _ _ _ (by decide +kernel) ?_
  rcases px_ite h with ⟨c1, h⟩ | ⟨c1, h⟩
  · refine And.intro (fun _ => ?_) (fun hn => absurd c1 hn)
    refine H [((28, 0, 0, 0, []), 1)] 21 _ _ _ (by decide +kernel) ?_
    exact (Prod.mk.inj (Option.some.inj h)).2
  · refine And.intro (fun hp => absurd hp c1) (fun _ => ?_)
    rcases px_ite h with ⟨c2, h⟩ | ⟨c2, h⟩
    · refine And.intro (fun _ => ?_) (fun hn => absurd c2 hn)
      refine H [((28, 0, 0, 0, []), 1)] 21 _ _ _ (by decide +kernel) ?_
      exact (Prod.mk.inj (Option.some.inj h)).2
    · refine And.intro (fun hp => absurd hp c2) (fun _ => ?_)
      obtain ⟨g3, h⟩ := px_gd h
      refine And.intro g3 ?_
      exact (Prod.mk.inj (Option.some.inj h)).2
theorem ok_Law_skipToHere_57 {l : Launch} {a1 : Int} {σ : pS} {v : Int} {σ1 : pS} (h : f_Law_skipToHere_57 a1 σ = some (v, σ1)) : Con l 0 35 [.inr 57, .inl a1] σ v σ1 := Con_mk 2 2 rfl (by decide +kernel) (fun _ H => ok_Law_skipToHere_57_w H _ _ h)
def mi_rdC : Nat → Nat
  | 0 => 32
  | 1 => 33
  | _ => 34
def f_Law_readEither_57_1_p13 (rc : Nat → Int → pS → Option (Int × pS)) : Nat → Int → Int → pS → Option (Int × pS)
  | 0, _, _, _ => none
  | n + 1, a2, a3, σ => if 240 ≤ a3 then (some (1, σ)) else ((f_Tape_sign_1  σ).bind fun q4 => (if q4.1 = 124 then ((f_Tape_step_1  q4.2).bind fun q6 => ((f_Law_addStep_57 124 0 q6.2).bind fun q7 => ((rc 1 a2 q7.2).bind fun q8 => (if q8.1 = 0 then (some (0, q8.2)) else ((f_Law_skipToHere_57 q7.1 q8.2).bind fun q10 => (f_Law_readEither_57_1_p13 rc n a2 (pw (a3 + 1)) q10.2)))))) else (some (1, q4.2))))
def f_Law_readEither_57_1 (rc : Nat → Int → pS → Option (Int × pS)) (a2 : Int) (σ : pS) : Option (Int × pS) := (rc 1 a2 σ).bind fun q1 => (if q1.1 = 0 then (some (0, q1.2)) else (f_Law_readEither_57_1_p13 rc 4096 a2 0 q1.2))
theorem ok_Law_readEither_57_1_p13 {l : Launch} {rv : Int} {rσ : pS} {G : Nat → pL → List pV → pS → Prop} {fd fr : Nat} {rc : Nat → Int → pS → Option (Int × pS)} (hrc : ∀ w a σ v σ1, rc w a σ = some (v, σ1) → Con l fd (mi_rdC w) [.inr 57, .inr 1, .inl a] σ v σ1) (hfd : fd + 1 ≤ fr) (hfr : 1 ≤ fr) (H : px_R l fr 32 rv rσ G) : ∀ (n : Nat) (a2 a3 : Int) (σ : pS), f_Law_readEither_57_1_p13 rc n a2 a3 σ = some (rv, rσ) → G 13 [some (.inr 57), some (.inr 1), some (.inl a2), some (.inl a3), none] [] σ := by
  intro n
  induction n with
  | zero =>
    intro a2 a3 σ h
    unfold f_Law_readEither_57_1_p13 at h
    cases h
  | succ n ih =>
    intro a2 a3 σ h
    unfold f_Law_readEither_57_1_p13 at h
    refine H [((1, 3, 0, 0, []), 1), ((0, 0, 0, 240, []), 3), ((13, 3, 65, 0, []), 3), ((2, 1, 0, 0, []), 1), ((23, 19, 0, 1, [(0, 1)]), 3), ((0, 0, 0, 124, []), 2), ((13, 1, 65, 0, []), 3), ((2, 1, 0, 0, []), 1), ((23, 21, 0, 0, [(0, 1)]), 3), ((2, 0, 0, 0, []), 1), ((0, 0, 0, 124, []), 2), ((0, 0, 0, 0, []), 1), ((23, 29, 2, 1, [(0, 57)]), 3), ((3, 4, 0, 0, []), 2), ((2, 0, 0, 0, []), 1), ((2, 1, 0, 0, []), 1), ((1, 2, 0, 0, []), 1), ((23, 33, 2, 1, [(0, 57)]), 3), ((14, 1, 53, 0, []), 3), ((0, 0, 0, 0, []), 1), ((27, 1, 0, 0, []), 1)] 13 _ _ _ (by decide +kernel) ?_
    rcases px_ite h with ⟨c3, h⟩ | ⟨c3, h⟩
    · refine And.intro (fun _ => ?_) (fun hn => absurd c3 hn)
      refine H [((0, 0, 0, 1, []), 1), ((27, 1, 0, 0, []), 1)] 65 _ _ _ (by decide +kernel) ?_
      refine And.intro (show (0 : Int) ≤ 1 ∧ (1 : Int) ≤ 1 from by decide) ?_
      exact Prod.mk.inj (Option.some.inj h)
    · refine And.intro (fun hp => absurd hp c3) (fun _ => ?_)
      obtain ⟨⟨vq4, σq4⟩, hq4, h⟩ := px_bind h
      dsimp only at h
      refine Exists.intro 0 (Exists.intro vq4 (Exists.intro σq4 (And.intro (Nat.le_trans (Nat.le_of_ble_eq_true rfl) hfr) (And.intro (ok_Tape_sign_1 hq4) ?_))))
      rcases px_ite h with ⟨c5, h⟩ | ⟨c5, h⟩
      · refine And.intro (fun hp => absurd c5 hp) (fun _ => ?_)
        obtain ⟨⟨vq6, σq6⟩, hq6, h⟩ := px_bind h
        dsimp only at h
        refine Exists.intro 0 (Exists.intro vq6 (Exists.intro σq6 (And.intro (Nat.le_trans (Nat.le_of_ble_eq_true rfl) hfr) (And.intro (ok_Tape_step_1 hq6) ?_))))
        obtain ⟨⟨vq7, σq7⟩, hq7, h⟩ := px_bind h
        dsimp only at h
        refine Exists.intro 0 (Exists.intro vq7 (Exists.intro σq7 (And.intro (Nat.le_trans (Nat.le_of_ble_eq_true rfl) hfr) (And.intro (ok_Law_addStep_57 hq7) ?_))))
        obtain ⟨⟨vq8, σq8⟩, hq8, h⟩ := px_bind h
        dsimp only at h
        refine Exists.intro fd (Exists.intro vq8 (Exists.intro σq8 (And.intro hfd (And.intro (hrc 1 _ _ _ _ hq8) ?_))))
        rcases px_ite h with ⟨c9, h⟩ | ⟨c9, h⟩
        · refine And.intro (fun hp => absurd c9 hp) (fun _ => ?_)
          refine And.intro (show (0 : Int) ≤ 0 ∧ (0 : Int) ≤ 1 from by decide) ?_
          exact Prod.mk.inj (Option.some.inj h)
        · refine And.intro (fun _ => ?_) (fun hn => absurd c9 hn)
          refine H [((2, 0, 0, 0, []), 1), ((1, 4, 0, 0, []), 2), ((23, 35, 1, 0, [(0, 57)]), 3), ((5, 3, 0, 1, []), 3), ((12, 0, 13, 0, []), 3), ((29, 4, 0, 0, []), 0)] 53 _ _ _ (by decide +kernel) ?_
          obtain ⟨⟨vq10, σq10⟩, hq10, h⟩ := px_bind h
          dsimp only at h
          refine Exists.intro 0 (Exists.intro vq10 (Exists.intro σq10 (And.intro (Nat.le_trans (Nat.le_of_ble_eq_true rfl) hfr) (And.intro (ok_Law_skipToHere_57 hq10) ?_))))
          exact ih _ _ _ h
      · refine And.intro (fun _ => ?_) (fun hn => absurd c5 hn)
        refine H [((0, 0, 0, 1, []), 1), ((27, 1, 0, 0, []), 1)] 65 _ _ _ (by decide +kernel) ?_
        refine And.intro (show (0 : Int) ≤ 1 ∧ (1 : Int) ≤ 1 from by decide) ?_
        exact Prod.mk.inj (Option.some.inj h)
theorem ok_Law_readEither_57_1_w {l : Launch} {rv : Int} {rσ : pS} {G : Nat → pL → List pV → pS → Prop} {fd fr : Nat} {rc : Nat → Int → pS → Option (Int × pS)} (hrc : ∀ w a σ v σ1, rc w a σ = some (v, σ1) → Con l fd (mi_rdC w) [.inr 57, .inr 1, .inl a] σ v σ1) (hfd : fd + 1 ≤ fr) (hfr : 1 ≤ fr) (H : px_R l fr 32 rv rσ G) : ∀ (a2 : Int) (σ : pS), f_Law_readEither_57_1 rc a2 σ = some (rv, rσ) → G 0 [some (.inr 57), some (.inr 1), some (.inl a2), none, none] [] σ := by
  intro a2 σ h
  unfold f_Law_readEither_57_1 at h
  refine H [((2, 0, 0, 0, []), 1), ((2, 1, 0, 0, []), 1), ((1, 2, 0, 0, []), 1), ((23, 33, 2, 1, [(0, 57)]), 3), ((14, 1, 11, 0, []), 3), ((0, 0, 0, 0, []), 1), ((27, 1, 0, 0, []), 1)] 0 _ _ _ (by decide +kernel) ?_
  obtain ⟨⟨vq1, σq1⟩, hq1, h⟩ := px_bind h
  dsimp only at h
  refine Exists.intro fd (Exists.intro vq1 (Exists.intro σq1 (And.intro hfd (And.intro (hrc 1 _ _ _ _ hq1) ?_))))
  rcases px_ite h with ⟨c2, h⟩ | ⟨c2, h⟩
  · refine And.intro (fun hp => absurd c2 hp) (fun _ => ?_)
    refine And.intro (show (0 : Int) ≤ 0 ∧ (0 : Int) ≤ 1 from by decide) ?_
    exact Prod.mk.inj (Option.some.inj h)
  · refine And.intro (fun _ => ?_) (fun hn => absurd c2 hn)
    refine H [((0, 0, 0, 0, []), 1), ((3, 3, 0, 0, []), 1)] 11 _ _ _ (by decide +kernel) ?_
    exact ok_Law_readEither_57_1_p13 hrc hfd hfr H _ _ _ _ h
theorem ok_Law_readEither_57_1 {l : Launch} {fd fr : Nat} {rc : Nat → Int → pS → Option (Int × pS)} (hrc : ∀ w a σ v σ1, rc w a σ = some (v, σ1) → Con l fd (mi_rdC w) [.inr 57, .inr 1, .inl a] σ v σ1) (hfd : fd + 1 ≤ fr) (hfr : 1 ≤ fr) {a2 : Int} {σ : pS} {v : Int} {σ1 : pS} (h : f_Law_readEither_57_1 rc a2 σ = some (v, σ1)) : Con l fr 32 [.inr 57, .inr 1, .inl a2] σ v σ1 := Con_mk 3 5 rfl (by decide +kernel) (fun _ H => ok_Law_readEither_57_1_w hrc hfd hfr H _ _ h)
def f_Law_readBoth_57_1_p13 (rc : Nat → Int → pS → Option (Int × pS)) : Nat → Int → Int → pS → Option (Int × pS)
  | 0, _, _, _ => none
  | n + 1, a2, a3, σ => if 240 ≤ a3 then (some (1, σ)) else ((f_Tape_sign_1  σ).bind fun q4 => (if q4.1 = 38 then ((f_Tape_step_1  q4.2).bind fun q6 => ((f_Law_addStep_57 38 0 q6.2).bind fun q7 => ((rc 2 a2 q7.2).bind fun q8 => (if q8.1 = 0 then (some (0, q8.2)) else ((f_Law_skipToHere_57 q7.1 q8.2).bind fun q10 => (f_Law_readBoth_57_1_p13 rc n a2 (pw (a3 + 1)) q10.2)))))) else (some (1, q4.2))))
def f_Law_readBoth_57_1 (rc : Nat → Int → pS → Option (Int × pS)) (a2 : Int) (σ : pS) : Option (Int × pS) := (rc 2 a2 σ).bind fun q1 => (if q1.1 = 0 then (some (0, q1.2)) else (f_Law_readBoth_57_1_p13 rc 4096 a2 0 q1.2))
theorem ok_Law_readBoth_57_1_p13 {l : Launch} {rv : Int} {rσ : pS} {G : Nat → pL → List pV → pS → Prop} {fd fr : Nat} {rc : Nat → Int → pS → Option (Int × pS)} (hrc : ∀ w a σ v σ1, rc w a σ = some (v, σ1) → Con l fd (mi_rdC w) [.inr 57, .inr 1, .inl a] σ v σ1) (hfd : fd + 1 ≤ fr) (hfr : 1 ≤ fr) (H : px_R l fr 33 rv rσ G) : ∀ (n : Nat) (a2 a3 : Int) (σ : pS), f_Law_readBoth_57_1_p13 rc n a2 a3 σ = some (rv, rσ) → G 13 [some (.inr 57), some (.inr 1), some (.inl a2), some (.inl a3), none] [] σ := by
  intro n
  induction n with
  | zero =>
    intro a2 a3 σ h
    unfold f_Law_readBoth_57_1_p13 at h
    cases h
  | succ n ih =>
    intro a2 a3 σ h
    unfold f_Law_readBoth_57_1_p13 at h
    refine H [((1, 3, 0, 0, []), 1), ((0, 0, 0, 240, []), 3), ((13, 3, 65, 0, []), 3), ((2, 1, 0, 0, []), 1), ((23, 19, 0, 1, [(0, 1)]), 3), ((0, 0, 0, 38, []), 2), ((13, 1, 65, 0, []), 3), ((2, 1, 0, 0, []), 1), ((23, 21, 0, 0, [(0, 1)]), 3), ((2, 0, 0, 0, []), 1), ((0, 0, 0, 38, []), 2), ((0, 0, 0, 0, []), 1), ((23, 29, 2, 1, [(0, 57)]), 3), ((3, 4, 0, 0, []), 2), ((2, 0, 0, 0, []), 1), ((2, 1, 0, 0, []), 1), ((1, 2, 0, 0, []), 1), ((23, 34, 2, 1, [(0, 57)]), 3), ((14, 1, 53, 0, []), 3), ((0, 0, 0, 0, []), 1), ((27, 1, 0, 0, []), 1)] 13 _ _ _ (by decide +kernel) ?_
    rcases px_ite h with ⟨c3, h⟩ | ⟨c3, h⟩
    · refine And.intro (fun _ => ?_) (fun hn => absurd c3 hn)
      refine H [((0, 0, 0, 1, []), 1), ((27, 1, 0, 0, []), 1)] 65 _ _ _ (by decide +kernel) ?_
      refine And.intro (show (0 : Int) ≤ 1 ∧ (1 : Int) ≤ 1 from by decide) ?_
      exact Prod.mk.inj (Option.some.inj h)
    · refine And.intro (fun hp => absurd hp c3) (fun _ => ?_)
      obtain ⟨⟨vq4, σq4⟩, hq4, h⟩ := px_bind h
      dsimp only at h
      refine Exists.intro 0 (Exists.intro vq4 (Exists.intro σq4 (And.intro (Nat.le_trans (Nat.le_of_ble_eq_true rfl) hfr) (And.intro (ok_Tape_sign_1 hq4) ?_))))
      rcases px_ite h with ⟨c5, h⟩ | ⟨c5, h⟩
      · refine And.intro (fun hp => absurd c5 hp) (fun _ => ?_)
        obtain ⟨⟨vq6, σq6⟩, hq6, h⟩ := px_bind h
        dsimp only at h
        refine Exists.intro 0 (Exists.intro vq6 (Exists.intro σq6 (And.intro (Nat.le_trans (Nat.le_of_ble_eq_true rfl) hfr) (And.intro (ok_Tape_step_1 hq6) ?_))))
        obtain ⟨⟨vq7, σq7⟩, hq7, h⟩ := px_bind h
        dsimp only at h
        refine Exists.intro 0 (Exists.intro vq7 (Exists.intro σq7 (And.intro (Nat.le_trans (Nat.le_of_ble_eq_true rfl) hfr) (And.intro (ok_Law_addStep_57 hq7) ?_))))
        obtain ⟨⟨vq8, σq8⟩, hq8, h⟩ := px_bind h
        dsimp only at h
        refine Exists.intro fd (Exists.intro vq8 (Exists.intro σq8 (And.intro hfd (And.intro (hrc 2 _ _ _ _ hq8) ?_))))
        rcases px_ite h with ⟨c9, h⟩ | ⟨c9, h⟩
        · refine And.intro (fun hp => absurd c9 hp) (fun _ => ?_)
          refine And.intro (show (0 : Int) ≤ 0 ∧ (0 : Int) ≤ 1 from by decide) ?_
          exact Prod.mk.inj (Option.some.inj h)
        · refine And.intro (fun _ => ?_) (fun hn => absurd c9 hn)
          refine H [((2, 0, 0, 0, []), 1), ((1, 4, 0, 0, []), 2), ((23, 35, 1, 0, [(0, 57)]), 3), ((5, 3, 0, 1, []), 3), ((12, 0, 13, 0, []), 3), ((29, 4, 0, 0, []), 0)] 53 _ _ _ (by decide +kernel) ?_
          obtain ⟨⟨vq10, σq10⟩, hq10, h⟩ := px_bind h
          dsimp only at h
          refine Exists.intro 0 (Exists.intro vq10 (Exists.intro σq10 (And.intro (Nat.le_trans (Nat.le_of_ble_eq_true rfl) hfr) (And.intro (ok_Law_skipToHere_57 hq10) ?_))))
          exact ih _ _ _ h
      · refine And.intro (fun _ => ?_) (fun hn => absurd c5 hn)
        refine H [((0, 0, 0, 1, []), 1), ((27, 1, 0, 0, []), 1)] 65 _ _ _ (by decide +kernel) ?_
        refine And.intro (show (0 : Int) ≤ 1 ∧ (1 : Int) ≤ 1 from by decide) ?_
        exact Prod.mk.inj (Option.some.inj h)
theorem ok_Law_readBoth_57_1_w {l : Launch} {rv : Int} {rσ : pS} {G : Nat → pL → List pV → pS → Prop} {fd fr : Nat} {rc : Nat → Int → pS → Option (Int × pS)} (hrc : ∀ w a σ v σ1, rc w a σ = some (v, σ1) → Con l fd (mi_rdC w) [.inr 57, .inr 1, .inl a] σ v σ1) (hfd : fd + 1 ≤ fr) (hfr : 1 ≤ fr) (H : px_R l fr 33 rv rσ G) : ∀ (a2 : Int) (σ : pS), f_Law_readBoth_57_1 rc a2 σ = some (rv, rσ) → G 0 [some (.inr 57), some (.inr 1), some (.inl a2), none, none] [] σ := by
  intro a2 σ h
  unfold f_Law_readBoth_57_1 at h
  refine H [((2, 0, 0, 0, []), 1), ((2, 1, 0, 0, []), 1), ((1, 2, 0, 0, []), 1), ((23, 34, 2, 1, [(0, 57)]), 3), ((14, 1, 11, 0, []), 3), ((0, 0, 0, 0, []), 1), ((27, 1, 0, 0, []), 1)] 0 _ _ _ (by decide +kernel) ?_
  obtain ⟨⟨vq1, σq1⟩, hq1, h⟩ := px_bind h
  dsimp only at h
  refine Exists.intro fd (Exists.intro vq1 (Exists.intro σq1 (And.intro hfd (And.intro (hrc 2 _ _ _ _ hq1) ?_))))
  rcases px_ite h with ⟨c2, h⟩ | ⟨c2, h⟩
  · refine And.intro (fun hp => absurd c2 hp) (fun _ => ?_)
    refine And.intro (show (0 : Int) ≤ 0 ∧ (0 : Int) ≤ 1 from by decide) ?_
    exact Prod.mk.inj (Option.some.inj h)
  · refine And.intro (fun _ => ?_) (fun hn => absurd c2 hn)
    refine H [((0, 0, 0, 0, []), 1), ((3, 3, 0, 0, []), 1)] 11 _ _ _ (by decide +kernel) ?_
    exact ok_Law_readBoth_57_1_p13 hrc hfd hfr H _ _ _ _ h
theorem ok_Law_readBoth_57_1 {l : Launch} {fd fr : Nat} {rc : Nat → Int → pS → Option (Int × pS)} (hrc : ∀ w a σ v σ1, rc w a σ = some (v, σ1) → Con l fd (mi_rdC w) [.inr 57, .inr 1, .inl a] σ v σ1) (hfd : fd + 1 ≤ fr) (hfr : 1 ≤ fr) {a2 : Int} {σ : pS} {v : Int} {σ1 : pS} (h : f_Law_readBoth_57_1 rc a2 σ = some (v, σ1)) : Con l fr 33 [.inr 57, .inr 1, .inl a2] σ v σ1 := Con_mk 3 5 rfl (by decide +kernel) (fun _ H => ok_Law_readBoth_57_1_w hrc hfd hfr H _ _ h)
def f_Law_isOneOf (a0 a1 a2 a3 : Int) (σ : pS) : Option (Int × pS) := if a0 = a1 then (some (1, σ)) else (if a0 = a2 then (some (1, σ)) else (if a0 = a3 then (some (1, σ)) else (some (0, σ))))
theorem ok_Law_isOneOf_w {l : Launch} {rv : Int} {rσ : pS} {G : Nat → pL → List pV → pS → Prop} (H : px_R l 0 31 rv rσ G) : ∀ (a0 a1 a2 a3 : Int) (σ : pS), f_Law_isOneOf a0 a1 a2 a3 σ = some (rv, rσ) → G 0 [some (.inl a0), some (.inl a1), some (.inl a2), some (.inl a3)] [] σ := by
  intro a0 a1 a2 a3 σ h
  unfold f_Law_isOneOf at h
  refine H [((1, 0, 0, 0, []), 1), ((1, 1, 0, 0, []), 1), ((13, 0, 15, 0, []), 3), ((1, 0, 0, 0, []), 1), ((1, 2, 0, 0, []), 1), ((13, 0, 15, 0, []), 3), ((1, 0, 0, 0, []), 1), ((1, 3, 0, 0, []), 1), ((13, 1, 19, 0, []), 3), ((0, 0, 0, 1, []), 1), ((12, 0, 20, 0, []), 3), ((27, 1, 0, 0, []), 1)] 0 _ _ _ (by decide +kernel) ?_
  rcases px_ite h with ⟨c1, h⟩ | ⟨c1, h⟩
  · refine And.intro (fun _ => ?_) (fun hn => absurd c1 hn)
    refine H [((0, 0, 0, 1, []), 1), ((12, 0, 20, 0, []), 3), ((27, 1, 0, 0, []), 1)] 15 _ _ _ (by decide +kernel) ?_
    refine And.intro (show (0 : Int) ≤ 1 ∧ (1 : Int) ≤ 1 from by decide) ?_
    exact Prod.mk.inj (Option.some.inj h)
  · refine And.intro (fun hp => absurd hp c1) (fun _ => ?_)
    rcases px_ite h with ⟨c2, h⟩ | ⟨c2, h⟩
    · refine And.intro (fun _ => ?_) (fun hn => absurd c2 hn)
      refine H [((0, 0, 0, 1, []), 1), ((12, 0, 20, 0, []), 3), ((27, 1, 0, 0, []), 1)] 15 _ _ _ (by decide +kernel) ?_
      refine And.intro (show (0 : Int) ≤ 1 ∧ (1 : Int) ≤ 1 from by decide) ?_
      exact Prod.mk.inj (Option.some.inj h)
    · refine And.intro (fun hp => absurd hp c2) (fun _ => ?_)
      rcases px_ite h with ⟨c3, h⟩ | ⟨c3, h⟩
      · refine And.intro (fun hp => absurd c3 hp) (fun _ => ?_)
        refine And.intro (show (0 : Int) ≤ 1 ∧ (1 : Int) ≤ 1 from by decide) ?_
        exact Prod.mk.inj (Option.some.inj h)
      · refine And.intro (fun _ => ?_) (fun hn => absurd c3 hn)
        refine H [((0, 0, 0, 0, []), 1), ((27, 1, 0, 0, []), 1)] 19 _ _ _ (by decide +kernel) ?_
        refine And.intro (show (0 : Int) ≤ 0 ∧ (0 : Int) ≤ 1 from by decide) ?_
        exact Prod.mk.inj (Option.some.inj h)
theorem ok_Law_isOneOf {l : Launch} {a0 a1 a2 a3 : Int} {σ : pS} {v : Int} {σ1 : pS} (h : f_Law_isOneOf a0 a1 a2 a3 σ = some (v, σ1)) : Con l 0 31 [.inl a0, .inl a1, .inl a2, .inl a3] σ v σ1 := Con_mk 4 4 rfl (by decide +kernel) (fun _ H => ok_Law_isOneOf_w H _ _ _ _ _ h)
def mi_rdS : Nat → Nat
  | 0 => 22
  | 1 => 23
  | _ => 24
def f_Law_readSum_57_1_p13 (rc : Nat → Int → pS → Option (Int × pS)) : Nat → Int → Int → pS → Option (Int × pS)
  | 0, _, _, _ => none
  | n + 1, a2, a3, σ => if 240 ≤ a3 then (some (1, σ)) else ((f_Tape_sign_1  σ).bind fun q4 => ((f_Law_isOneOf q4.1 43 45 45 q4.2).bind fun q5 => (if q5.1 = 0 then (some (1, q5.2)) else ((f_Tape_sign_1  q5.2).bind fun q7 => ((f_Tape_step_1  q7.2).bind fun q8 => ((rc 1 a2 q8.2).bind fun q9 => (if q9.1 = 0 then (some (0, q9.2)) else ((f_Law_addStep_57 q7.1 0 q9.2).bind fun q11 => (f_Law_readSum_57_1_p13 rc n a2 (pw (a3 + 1)) q11.2)))))))))
def f_Law_readSum_57_1 (rc : Nat → Int → pS → Option (Int × pS)) (a2 : Int) (σ : pS) : Option (Int × pS) := (rc 1 a2 σ).bind fun q1 => (if q1.1 = 0 then (some (0, q1.2)) else (f_Law_readSum_57_1_p13 rc 4096 a2 0 q1.2))
theorem ok_Law_readSum_57_1_p13 {l : Launch} {rv : Int} {rσ : pS} {G : Nat → pL → List pV → pS → Prop} {fd fr : Nat} {rc : Nat → Int → pS → Option (Int × pS)} (hrc : ∀ w a σ v σ1, rc w a σ = some (v, σ1) → Con l fd (mi_rdS w) [.inr 57, .inr 1, .inl a] σ v σ1) (hfd : fd + 1 ≤ fr) (hfr : 1 ≤ fr) (H : px_R l fr 22 rv rσ G) : ∀ (n : Nat) (a2 a3 : Int) (σ : pS), f_Law_readSum_57_1_p13 rc n a2 a3 σ = some (rv, rσ) → G 13 [some (.inr 57), some (.inr 1), some (.inl a2), some (.inl a3), none] [] σ := by
  intro n
  induction n with
  | zero =>
    intro a2 a3 σ h
    unfold f_Law_readSum_57_1_p13 at h
    cases h
  | succ n ih =>
    intro a2 a3 σ h
    unfold f_Law_readSum_57_1_p13 at h
    refine H [((1, 3, 0, 0, []), 1), ((0, 0, 0, 240, []), 3), ((13, 3, 71, 0, []), 3), ((2, 1, 0, 0, []), 1), ((23, 19, 0, 1, [(0, 1)]), 3), ((0, 0, 0, 43, []), 2), ((0, 0, 0, 45, []), 2), ((0, 0, 0, 45, []), 2), ((24, 31, 4, 1, []), 3), ((14, 0, 71, 0, []), 3), ((2, 1, 0, 0, []), 1), ((23, 19, 0, 1, [(0, 1)]), 3), ((3, 4, 0, 0, []), 2), ((2, 1, 0, 0, []), 1), ((23, 21, 0, 0, [(0, 1)]), 3), ((2, 0, 0, 0, []), 1), ((2, 1, 0, 0, []), 1), ((1, 2, 0, 0, []), 1), ((23, 23, 2, 1, [(0, 57)]), 3), ((14, 1, 57, 0, []), 3), ((0, 0, 0, 0, []), 1), ((27, 1, 0, 0, []), 1)] 13 _ _ _ (by decide +kernel) ?_
    rcases px_ite h with ⟨c3, h⟩ | ⟨c3, h⟩
    · refine And.intro (fun _ => ?_) (fun hn => absurd c3 hn)
      refine H [((0, 0, 0, 1, []), 1), ((27, 1, 0, 0, []), 1)] 71 _ _ _ (by decide +kernel) ?_
      refine And.intro (show (0 : Int) ≤ 1 ∧ (1 : Int) ≤ 1 from by decide) ?_
      exact Prod.mk.inj (Option.some.inj h)
    · refine And.intro (fun hp => absurd hp c3) (fun _ => ?_)
      obtain ⟨⟨vq4, σq4⟩, hq4, h⟩ := px_bind h
      dsimp only at h
      refine Exists.intro 0 (Exists.intro vq4 (Exists.intro σq4 (And.intro (Nat.le_trans (Nat.le_of_ble_eq_true rfl) hfr) (And.intro (ok_Tape_sign_1 hq4) ?_))))
      obtain ⟨⟨vq5, σq5⟩, hq5, h⟩ := px_bind h
      dsimp only at h
      refine Exists.intro 0 (Exists.intro vq5 (Exists.intro σq5 (And.intro (Nat.le_trans (Nat.le_of_ble_eq_true rfl) hfr) (And.intro (ok_Law_isOneOf hq5) ?_))))
      rcases px_ite h with ⟨c6, h⟩ | ⟨c6, h⟩
      · refine And.intro (fun _ => ?_) (fun hn => absurd c6 hn)
        refine H [((0, 0, 0, 1, []), 1), ((27, 1, 0, 0, []), 1)] 71 _ _ _ (by decide +kernel) ?_
        refine And.intro (show (0 : Int) ≤ 1 ∧ (1 : Int) ≤ 1 from by decide) ?_
        exact Prod.mk.inj (Option.some.inj h)
      · refine And.intro (fun hp => absurd hp c6) (fun _ => ?_)
        obtain ⟨⟨vq7, σq7⟩, hq7, h⟩ := px_bind h
        dsimp only at h
        refine Exists.intro 0 (Exists.intro vq7 (Exists.intro σq7 (And.intro (Nat.le_trans (Nat.le_of_ble_eq_true rfl) hfr) (And.intro (ok_Tape_sign_1 hq7) ?_))))
        obtain ⟨⟨vq8, σq8⟩, hq8, h⟩ := px_bind h
        dsimp only at h
        refine Exists.intro 0 (Exists.intro vq8 (Exists.intro σq8 (And.intro (Nat.le_trans (Nat.le_of_ble_eq_true rfl) hfr) (And.intro (ok_Tape_step_1 hq8) ?_))))
        obtain ⟨⟨vq9, σq9⟩, hq9, h⟩ := px_bind h
        dsimp only at h
        refine Exists.intro fd (Exists.intro vq9 (Exists.intro σq9 (And.intro hfd (And.intro (hrc 1 _ _ _ _ hq9) ?_))))
        rcases px_ite h with ⟨c10, h⟩ | ⟨c10, h⟩
        · refine And.intro (fun hp => absurd c10 hp) (fun _ => ?_)
          refine And.intro (show (0 : Int) ≤ 0 ∧ (0 : Int) ≤ 1 from by decide) ?_
          exact Prod.mk.inj (Option.some.inj h)
        · refine And.intro (fun _ => ?_) (fun hn => absurd c10 hn)
          refine H [((2, 0, 0, 0, []), 1), ((1, 4, 0, 0, []), 2), ((0, 0, 0, 0, []), 1), ((23, 29, 2, 1, [(0, 57)]), 3), ((11, 0, 0, 0, []), 1), ((5, 3, 0, 1, []), 3), ((12, 0, 13, 0, []), 3), ((29, 4, 0, 0, []), 0)] 57 _ _ _ (by decide +kernel) ?_
          obtain ⟨⟨vq11, σq11⟩, hq11, h⟩ := px_bind h
          dsimp only at h
          refine Exists.intro 0 (Exists.intro vq11 (Exists.intro σq11 (And.intro (Nat.le_trans (Nat.le_of_ble_eq_true rfl) hfr) (And.intro (ok_Law_addStep_57 hq11) ?_))))
          exact ih _ _ _ h
theorem ok_Law_readSum_57_1_w {l : Launch} {rv : Int} {rσ : pS} {G : Nat → pL → List pV → pS → Prop} {fd fr : Nat} {rc : Nat → Int → pS → Option (Int × pS)} (hrc : ∀ w a σ v σ1, rc w a σ = some (v, σ1) → Con l fd (mi_rdS w) [.inr 57, .inr 1, .inl a] σ v σ1) (hfd : fd + 1 ≤ fr) (hfr : 1 ≤ fr) (H : px_R l fr 22 rv rσ G) : ∀ (a2 : Int) (σ : pS), f_Law_readSum_57_1 rc a2 σ = some (rv, rσ) → G 0 [some (.inr 57), some (.inr 1), some (.inl a2), none, none] [] σ := by
  intro a2 σ h
  unfold f_Law_readSum_57_1 at h
  refine H [((2, 0, 0, 0, []), 1), ((2, 1, 0, 0, []), 1), ((1, 2, 0, 0, []), 1), ((23, 23, 2, 1, [(0, 57)]), 3), ((14, 1, 11, 0, []), 3), ((0, 0, 0, 0, []), 1), ((27, 1, 0, 0, []), 1)] 0 _ _ _ (by decide +kernel) ?_
  obtain ⟨⟨vq1, σq1⟩, hq1, h⟩ := px_bind h
  dsimp only at h
  refine Exists.intro fd (Exists.intro vq1 (Exists.intro σq1 (And.intro hfd (And.intro (hrc 1 _ _ _ _ hq1) ?_))))
  rcases px_ite h with ⟨c2, h⟩ | ⟨c2, h⟩
  · refine And.intro (fun hp => absurd c2 hp) (fun _ => ?_)
    refine And.intro (show (0 : Int) ≤ 0 ∧ (0 : Int) ≤ 1 from by decide) ?_
    exact Prod.mk.inj (Option.some.inj h)
  · refine And.intro (fun _ => ?_) (fun hn => absurd c2 hn)
    refine H [((0, 0, 0, 0, []), 1), ((3, 3, 0, 0, []), 1)] 11 _ _ _ (by decide +kernel) ?_
    exact ok_Law_readSum_57_1_p13 hrc hfd hfr H _ _ _ _ h
theorem ok_Law_readSum_57_1 {l : Launch} {fd fr : Nat} {rc : Nat → Int → pS → Option (Int × pS)} (hrc : ∀ w a σ v σ1, rc w a σ = some (v, σ1) → Con l fd (mi_rdS w) [.inr 57, .inr 1, .inl a] σ v σ1) (hfd : fd + 1 ≤ fr) (hfr : 1 ≤ fr) {a2 : Int} {σ : pS} {v : Int} {σ1 : pS} (h : f_Law_readSum_57_1 rc a2 σ = some (v, σ1)) : Con l fr 22 [.inr 57, .inr 1, .inl a2] σ v σ1 := Con_mk 3 5 rfl (by decide +kernel) (fun _ H => ok_Law_readSum_57_1_w hrc hfd hfr H _ _ h)
def f_Law_readProduct_57_1_p13 (rc : Nat → Int → pS → Option (Int × pS)) : Nat → Int → Int → pS → Option (Int × pS)
  | 0, _, _, _ => none
  | n + 1, a2, a3, σ => if 240 ≤ a3 then (some (1, σ)) else ((f_Tape_sign_1  σ).bind fun q4 => ((f_Law_isOneOf q4.1 42 47 37 q4.2).bind fun q5 => (if q5.1 = 0 then (some (1, q5.2)) else ((f_Tape_sign_1  q5.2).bind fun q7 => ((f_Tape_step_1  q7.2).bind fun q8 => ((rc 2 a2 q8.2).bind fun q9 => (if q9.1 = 0 then (some (0, q9.2)) else ((f_Law_addStep_57 q7.1 0 q9.2).bind fun q11 => (f_Law_readProduct_57_1_p13 rc n a2 (pw (a3 + 1)) q11.2)))))))))
def f_Law_readProduct_57_1 (rc : Nat → Int → pS → Option (Int × pS)) (a2 : Int) (σ : pS) : Option (Int × pS) := (rc 2 a2 σ).bind fun q1 => (if q1.1 = 0 then (some (0, q1.2)) else (f_Law_readProduct_57_1_p13 rc 4096 a2 0 q1.2))
theorem ok_Law_readProduct_57_1_p13 {l : Launch} {rv : Int} {rσ : pS} {G : Nat → pL → List pV → pS → Prop} {fd fr : Nat} {rc : Nat → Int → pS → Option (Int × pS)} (hrc : ∀ w a σ v σ1, rc w a σ = some (v, σ1) → Con l fd (mi_rdS w) [.inr 57, .inr 1, .inl a] σ v σ1) (hfd : fd + 1 ≤ fr) (hfr : 1 ≤ fr) (H : px_R l fr 23 rv rσ G) : ∀ (n : Nat) (a2 a3 : Int) (σ : pS), f_Law_readProduct_57_1_p13 rc n a2 a3 σ = some (rv, rσ) → G 13 [some (.inr 57), some (.inr 1), some (.inl a2), some (.inl a3), none] [] σ := by
  intro n
  induction n with
  | zero =>
    intro a2 a3 σ h
    unfold f_Law_readProduct_57_1_p13 at h
    cases h
  | succ n ih =>
    intro a2 a3 σ h
    unfold f_Law_readProduct_57_1_p13 at h
    refine H [((1, 3, 0, 0, []), 1), ((0, 0, 0, 240, []), 3), ((13, 3, 71, 0, []), 3), ((2, 1, 0, 0, []), 1), ((23, 19, 0, 1, [(0, 1)]), 3), ((0, 0, 0, 42, []), 2), ((0, 0, 0, 47, []), 2), ((0, 0, 0, 37, []), 2), ((24, 31, 4, 1, []), 3), ((14, 0, 71, 0, []), 3), ((2, 1, 0, 0, []), 1), ((23, 19, 0, 1, [(0, 1)]), 3), ((3, 4, 0, 0, []), 2), ((2, 1, 0, 0, []), 1), ((23, 21, 0, 0, [(0, 1)]), 3), ((2, 0, 0, 0, []), 1), ((2, 1, 0, 0, []), 1), ((1, 2, 0, 0, []), 1), ((23, 24, 2, 1, [(0, 57)]), 3), ((14, 1, 57, 0, []), 3), ((0, 0, 0, 0, []), 1), ((27, 1, 0, 0, []), 1)] 13 _ _ _ (by decide +kernel) ?_
    rcases px_ite h with ⟨c3, h⟩ | ⟨c3, h⟩
    · refine And.intro (fun _ => ?_) (fun hn => absurd c3 hn)
      refine H [((0, 0, 0, 1, []), 1), ((27, 1, 0, 0, []), 1)] 71 _ _ _ (by decide +kernel) ?_
      refine And.intro (show (0 : Int) ≤ 1 ∧ (1 : Int) ≤ 1 from by decide) ?_
      exact Prod.mk.inj (Option.some.inj h)
    · refine And.intro (fun hp => absurd hp c3) (fun _ => ?_)
      obtain ⟨⟨vq4, σq4⟩, hq4, h⟩ := px_bind h
      dsimp only at h
      refine Exists.intro 0 (Exists.intro vq4 (Exists.intro σq4 (And.intro (Nat.le_trans (Nat.le_of_ble_eq_true rfl) hfr) (And.intro (ok_Tape_sign_1 hq4) ?_))))
      obtain ⟨⟨vq5, σq5⟩, hq5, h⟩ := px_bind h
      dsimp only at h
      refine Exists.intro 0 (Exists.intro vq5 (Exists.intro σq5 (And.intro (Nat.le_trans (Nat.le_of_ble_eq_true rfl) hfr) (And.intro (ok_Law_isOneOf hq5) ?_))))
      rcases px_ite h with ⟨c6, h⟩ | ⟨c6, h⟩
      · refine And.intro (fun _ => ?_) (fun hn => absurd c6 hn)
        refine H [((0, 0, 0, 1, []), 1), ((27, 1, 0, 0, []), 1)] 71 _ _ _ (by decide +kernel) ?_
        refine And.intro (show (0 : Int) ≤ 1 ∧ (1 : Int) ≤ 1 from by decide) ?_
        exact Prod.mk.inj (Option.some.inj h)
      · refine And.intro (fun hp => absurd hp c6) (fun _ => ?_)
        obtain ⟨⟨vq7, σq7⟩, hq7, h⟩ := px_bind h
        dsimp only at h
        refine Exists.intro 0 (Exists.intro vq7 (Exists.intro σq7 (And.intro (Nat.le_trans (Nat.le_of_ble_eq_true rfl) hfr) (And.intro (ok_Tape_sign_1 hq7) ?_))))
        obtain ⟨⟨vq8, σq8⟩, hq8, h⟩ := px_bind h
        dsimp only at h
        refine Exists.intro 0 (Exists.intro vq8 (Exists.intro σq8 (And.intro (Nat.le_trans (Nat.le_of_ble_eq_true rfl) hfr) (And.intro (ok_Tape_step_1 hq8) ?_))))
        obtain ⟨⟨vq9, σq9⟩, hq9, h⟩ := px_bind h
        dsimp only at h
        refine Exists.intro fd (Exists.intro vq9 (Exists.intro σq9 (And.intro hfd (And.intro (hrc 2 _ _ _ _ hq9) ?_))))
        rcases px_ite h with ⟨c10, h⟩ | ⟨c10, h⟩
        · refine And.intro (fun hp => absurd c10 hp) (fun _ => ?_)
          refine And.intro (show (0 : Int) ≤ 0 ∧ (0 : Int) ≤ 1 from by decide) ?_
          exact Prod.mk.inj (Option.some.inj h)
        · refine And.intro (fun _ => ?_) (fun hn => absurd c10 hn)
          refine H [((2, 0, 0, 0, []), 1), ((1, 4, 0, 0, []), 2), ((0, 0, 0, 0, []), 1), ((23, 29, 2, 1, [(0, 57)]), 3), ((11, 0, 0, 0, []), 1), ((5, 3, 0, 1, []), 3), ((12, 0, 13, 0, []), 3), ((29, 4, 0, 0, []), 0)] 57 _ _ _ (by decide +kernel) ?_
          obtain ⟨⟨vq11, σq11⟩, hq11, h⟩ := px_bind h
          dsimp only at h
          refine Exists.intro 0 (Exists.intro vq11 (Exists.intro σq11 (And.intro (Nat.le_trans (Nat.le_of_ble_eq_true rfl) hfr) (And.intro (ok_Law_addStep_57 hq11) ?_))))
          exact ih _ _ _ h
theorem ok_Law_readProduct_57_1_w {l : Launch} {rv : Int} {rσ : pS} {G : Nat → pL → List pV → pS → Prop} {fd fr : Nat} {rc : Nat → Int → pS → Option (Int × pS)} (hrc : ∀ w a σ v σ1, rc w a σ = some (v, σ1) → Con l fd (mi_rdS w) [.inr 57, .inr 1, .inl a] σ v σ1) (hfd : fd + 1 ≤ fr) (hfr : 1 ≤ fr) (H : px_R l fr 23 rv rσ G) : ∀ (a2 : Int) (σ : pS), f_Law_readProduct_57_1 rc a2 σ = some (rv, rσ) → G 0 [some (.inr 57), some (.inr 1), some (.inl a2), none, none] [] σ := by
  intro a2 σ h
  unfold f_Law_readProduct_57_1 at h
  refine H [((2, 0, 0, 0, []), 1), ((2, 1, 0, 0, []), 1), ((1, 2, 0, 0, []), 1), ((23, 24, 2, 1, [(0, 57)]), 3), ((14, 1, 11, 0, []), 3), ((0, 0, 0, 0, []), 1), ((27, 1, 0, 0, []), 1)] 0 _ _ _ (by decide +kernel) ?_
  obtain ⟨⟨vq1, σq1⟩, hq1, h⟩ := px_bind h
  dsimp only at h
  refine Exists.intro fd (Exists.intro vq1 (Exists.intro σq1 (And.intro hfd (And.intro (hrc 2 _ _ _ _ hq1) ?_))))
  rcases px_ite h with ⟨c2, h⟩ | ⟨c2, h⟩
  · refine And.intro (fun hp => absurd c2 hp) (fun _ => ?_)
    refine And.intro (show (0 : Int) ≤ 0 ∧ (0 : Int) ≤ 1 from by decide) ?_
    exact Prod.mk.inj (Option.some.inj h)
  · refine And.intro (fun _ => ?_) (fun hn => absurd c2 hn)
    refine H [((0, 0, 0, 0, []), 1), ((3, 3, 0, 0, []), 1)] 11 _ _ _ (by decide +kernel) ?_
    exact ok_Law_readProduct_57_1_p13 hrc hfd hfr H _ _ _ _ h
theorem ok_Law_readProduct_57_1 {l : Launch} {fd fr : Nat} {rc : Nat → Int → pS → Option (Int × pS)} (hrc : ∀ w a σ v σ1, rc w a σ = some (v, σ1) → Con l fd (mi_rdS w) [.inr 57, .inr 1, .inl a] σ v σ1) (hfd : fd + 1 ≤ fr) (hfr : 1 ≤ fr) {a2 : Int} {σ : pS} {v : Int} {σ1 : pS} (h : f_Law_readProduct_57_1 rc a2 σ = some (v, σ1)) : Con l fr 23 [.inr 57, .inr 1, .inl a2] σ v σ1 := Con_mk 3 5 rfl (by decide +kernel) (fun _ H => ok_Law_readProduct_57_1_w hrc hfd hfr H _ _ h)
def f_Law_opens_1 (a1 : Int) (σ : pS) : Option (Int × pS) := if a1 < 6 then ((f_Tape_step_1  σ).bind fun q2 => (some (1, q2.2))) else ((f_Tape_fail_1 5 σ).bind fun q3 => (if 0 ≤ q3.1 ∧ q3.1 ≤ 1 then (some (q3.1, q3.2)) else none))
theorem ok_Law_opens_1_w {l : Launch} {rv : Int} {rσ : pS} {G : Nat → pL → List pV → pS → Prop} (H : px_R l 1 25 rv rσ G) : ∀ (a1 : Int) (σ : pS), f_Law_opens_1 a1 σ = some (rv, rσ) → G 0 [some (.inr 1), some (.inl a1)] [] σ := by
  intro a1 σ h
  unfold f_Law_opens_1 at h
  refine H [((1, 1, 0, 0, []), 1), ((0, 0, 0, 6, []), 2), ((13, 2, 12, 0, []), 3), ((2, 0, 0, 0, []), 1), ((0, 0, 0, 5, []), 1), ((23, 20, 1, 1, [(0, 1)]), 3), ((27, 1, 0, 0, []), 1)] 0 _ _ _ (by decide +kernel) ?_
  rcases px_ite h with ⟨c1, h⟩ | ⟨c1, h⟩
  · refine And.intro (fun _ => ?_) (fun hn => absurd c1 hn)
    refine H [((2, 0, 0, 0, []), 1), ((23, 21, 0, 0, [(0, 1)]), 3), ((0, 0, 0, 1, []), 1), ((27, 1, 0, 0, []), 1)] 12 _ _ _ (by decide +kernel) ?_
    obtain ⟨⟨vq2, σq2⟩, hq2, h⟩ := px_bind h
    dsimp only at h
    refine Exists.intro 0 (Exists.intro vq2 (Exists.intro σq2 (And.intro (Nat.le_of_ble_eq_true rfl) (And.intro (ok_Tape_step_1 hq2) ?_))))
    refine And.intro (show (0 : Int) ≤ 1 ∧ (1 : Int) ≤ 1 from by decide) ?_
    exact Prod.mk.inj (Option.some.inj h)
  · refine And.intro (fun hp => absurd hp c1) (fun _ => ?_)
    obtain ⟨⟨vq3, σq3⟩, hq3, h⟩ := px_bind h
    dsimp only at h
    refine Exists.intro 0 (Exists.intro vq3 (Exists.intro σq3 (And.intro (Nat.le_of_ble_eq_true rfl) (And.intro (ok_Tape_fail_1 hq3) ?_))))
    obtain ⟨g4, h⟩ := px_gd h
    refine And.intro g4 ?_
    exact Prod.mk.inj (Option.some.inj h)
theorem ok_Law_opens_1 {l : Launch} {a1 : Int} {σ : pS} {v : Int} {σ1 : pS} (h : f_Law_opens_1 a1 σ = some (v, σ1)) : Con l 1 25 [.inr 1, .inl a1] σ v σ1 := Con_mk 2 2 rfl (by decide +kernel) (fun _ H => ok_Law_opens_1_w H _ _ h)
def f_Law_readFactor_57_1_p96 (rc : Nat → Int → pS → Option (Int × pS)) (s0 : Int) (σ : pS) : Option (Int × pS) := if 0 ≤ s0 then ((f_Tape_step_1  σ).bind fun q8 => ((f_Law_addStep_57 97 s0 q8.2).bind fun q9 => (some (1, q9.2)))) else ((f_Tape_fail_1 1 σ).bind fun q10 => (if 0 ≤ q10.1 ∧ q10.1 ≤ 1 then (some (q10.1, q10.2)) else none))
def f_Law_readFactor_57_1 (rc : Nat → Int → pS → Option (Int × pS)) (a2 : Int) (σ : pS) : Option (Int × pS) := (f_Tape_sign_1  σ).bind fun q1 => (if q1.1 = 91 then ((f_Law_opens_1 a2 q1.2).bind fun q15 => (if q15.1 = 0 then (some (0, q15.2)) else ((rc 0 (pw (a2 + 1)) q15.2).bind fun q17 => (if q17.1 = 0 then (some (0, q17.2)) else ((f_Tape_accept_1 93 q17.2).bind fun q19 => (if q19.1 = 0 then (some (0, q19.2)) else (some (1, q19.2)))))))) else ((f_Tape_digitNext_1  q1.2).bind fun q3 => (if q3.1 = 0 then (if q1.1 = (-1) then (f_Law_readFactor_57_1_p96 rc (-1) q3.2) else (if 0 ≤ q1.1 ∧ q1.1 ≤ 255 then (f_Law_readFactor_57_1_p96 rc (pIdx q1.1) q3.2) else none)) else ((f_Tape_readDigits_1 5 q3.2).bind fun q12 => ((f_Law_addStep_57 48 q12.1 q12.2).bind fun q13 => (if q12.1 = (-1) then (some (0, q13.2)) else (some (1, q13.2))))))))
theorem ok_Law_readFactor_57_1_p96 {l : Launch} {rv : Int} {rσ : pS} {G : Nat → pL → List pV → pS → Prop} {fd fr : Nat} {rc : Nat → Int → pS → Option (Int × pS)} (hrc : ∀ w a σ v σ1, rc w a σ = some (v, σ1) → Con l fd (mi_rdS w) [.inr 57, .inr 1, .inl a] σ v σ1) (hfd : fd + 1 ≤ fr) (hfr : 4 ≤ fr) (H : px_R l fr 24 rv rσ G) : ∀ (s0 : Int) (σ : pS), f_Law_readFactor_57_1_p96 rc s0 σ = some (rv, rσ) → G 96 [some (.inr 57), some (.inr 1), none, none, none] [.inl s0] σ := by
  intro s0 σ h
  unfold f_Law_readFactor_57_1_p96 at h
  refine H [((3, 4, 0, 0, []), 2), ((1, 4, 0, 0, []), 2), ((14, 3, 109, 0, []), 3), ((2, 1, 0, 0, []), 1), ((0, 0, 0, 1, []), 1), ((23, 20, 1, 1, [(0, 1)]), 3), ((27, 1, 0, 0, []), 1)] 96 _ _ _ (by decide +kernel) ?_
  rcases px_ite h with ⟨c7, h⟩ | ⟨c7, h⟩
  · refine And.intro (fun _ => ?_) (fun hn => absurd c7 hn)
    refine H [((2, 1, 0, 0, []), 1), ((23, 21, 0, 0, [(0, 1)]), 3), ((2, 0, 0, 0, []), 1), ((0, 0, 0, 97, []), 2), ((1, 4, 0, 0, []), 2), ((23, 29, 2, 1, [(0, 57)]), 3), ((11, 0, 0, 0, []), 1), ((0, 0, 0, 1, []), 1), ((27, 1, 0, 0, []), 1)] 109 _ _ _ (by decide +kernel) ?_
    obtain ⟨⟨vq8, σq8⟩, hq8, h⟩ := px_bind h
    dsimp only at h
    refine Exists.intro 0 (Exists.intro vq8 (Exists.intro σq8 (And.intro (Nat.le_trans (Nat.le_of_ble_eq_true rfl) hfr) (And.intro (ok_Tape_step_1 hq8) ?_))))
    obtain ⟨⟨vq9, σq9⟩, hq9, h⟩ := px_bind h
    dsimp only at h
    refine Exists.intro 0 (Exists.intro vq9 (Exists.intro σq9 (And.intro (Nat.le_trans (Nat.le_of_ble_eq_true rfl) hfr) (And.intro (ok_Law_addStep_57 hq9) ?_))))
    refine And.intro (show (0 : Int) ≤ 1 ∧ (1 : Int) ≤ 1 from by decide) ?_
    exact Prod.mk.inj (Option.some.inj h)
  · refine And.intro (fun hp => absurd hp c7) (fun _ => ?_)
    obtain ⟨⟨vq10, σq10⟩, hq10, h⟩ := px_bind h
    dsimp only at h
    refine Exists.intro 0 (Exists.intro vq10 (Exists.intro σq10 (And.intro (Nat.le_trans (Nat.le_of_ble_eq_true rfl) hfr) (And.intro (ok_Tape_fail_1 hq10) ?_))))
    obtain ⟨g11, h⟩ := px_gd h
    refine And.intro g11 ?_
    exact Prod.mk.inj (Option.some.inj h)
theorem ok_Law_readFactor_57_1_w {l : Launch} {rv : Int} {rσ : pS} {G : Nat → pL → List pV → pS → Prop} {fd fr : Nat} {rc : Nat → Int → pS → Option (Int × pS)} (hrc : ∀ w a σ v σ1, rc w a σ = some (v, σ1) → Con l fd (mi_rdS w) [.inr 57, .inr 1, .inl a] σ v σ1) (hfd : fd + 1 ≤ fr) (hfr : 4 ≤ fr) (H : px_R l fr 24 rv rσ G) : ∀ (a2 : Int) (σ : pS), f_Law_readFactor_57_1 rc a2 σ = some (rv, rσ) → G 0 [some (.inr 57), some (.inr 1), some (.inl a2), none, none] [] σ := by
  intro a2 σ h
  unfold f_Law_readFactor_57_1 at h
  refine H [((2, 1, 0, 0, []), 1), ((23, 19, 0, 1, [(0, 1)]), 3), ((3, 3, 0, 0, []), 1), ((1, 3, 0, 0, []), 1), ((0, 0, 0, 91, []), 2), ((13, 1, 45, 0, []), 3), ((2, 1, 0, 0, []), 1), ((1, 2, 0, 0, []), 1), ((24, 25, 2, 1, []), 3), ((14, 0, 43, 0, []), 3), ((2, 0, 0, 0, []), 1), ((2, 1, 0, 0, []), 1), ((1, 2, 0, 0, []), 1), ((0, 0, 0, 1, []), 1), ((6, 0, 0, 0, []), 1), ((23, 22, 2, 1, [(0, 57)]), 3), ((14, 0, 43, 0, []), 3), ((2, 1, 0, 0, []), 1), ((0, 0, 0, 93, []), 2), ((23, 26, 1, 1, [(0, 1)]), 3), ((14, 0, 43, 0, []), 3), ((0, 0, 0, 1, []), 1), ((12, 0, 44, 0, []), 3), ((27, 1, 0, 0, []), 1)] 0 _ _ _ (by decide +kernel) ?_
  obtain ⟨⟨vq1, σq1⟩, hq1, h⟩ := px_bind h
  dsimp only at h
  refine Exists.intro 0 (Exists.intro vq1 (Exists.intro σq1 (And.intro (Nat.le_trans (Nat.le_of_ble_eq_true rfl) hfr) (And.intro (ok_Tape_sign_1 hq1) ?_))))
  rcases px_ite h with ⟨c2, h⟩ | ⟨c2, h⟩
  · refine And.intro (fun hp => absurd c2 hp) (fun _ => ?_)
    obtain ⟨⟨vq15, σq15⟩, hq15, h⟩ := px_bind h
    dsimp only at h
    refine Exists.intro 1 (Exists.intro vq15 (Exists.intro σq15 (And.intro (Nat.le_trans (Nat.le_of_ble_eq_true rfl) hfr) (And.intro (ok_Law_opens_1 hq15) ?_))))
    rcases px_ite h with ⟨c16, h⟩ | ⟨c16, h⟩
    · refine And.intro (fun _ => ?_) (fun hn => absurd c16 hn)
      refine H [((0, 0, 0, 0, []), 1), ((27, 1, 0, 0, []), 1)] 43 _ _ _ (by decide +kernel) ?_
      refine And.intro (show (0 : Int) ≤ 0 ∧ (0 : Int) ≤ 1 from by decide) ?_
      exact Prod.mk.inj (Option.some.inj h)
    · refine And.intro (fun hp => absurd hp c16) (fun _ => ?_)
      obtain ⟨⟨vq17, σq17⟩, hq17, h⟩ := px_bind h
      dsimp only at h
      refine Exists.intro fd (Exists.intro vq17 (Exists.intro σq17 (And.intro hfd (And.intro (hrc 0 _ _ _ _ hq17) ?_))))
      rcases px_ite h with ⟨c18, h⟩ | ⟨c18, h⟩
      · refine And.intro (fun _ => ?_) (fun hn => absurd c18 hn)
        refine H [((0, 0, 0, 0, []), 1), ((27, 1, 0, 0, []), 1)] 43 _ _ _ (by decide +kernel) ?_
        refine And.intro (show (0 : Int) ≤ 0 ∧ (0 : Int) ≤ 1 from by decide) ?_
        exact Prod.mk.inj (Option.some.inj h)
      · refine And.intro (fun hp => absurd hp c18) (fun _ => ?_)
        obtain ⟨⟨vq19, σq19⟩, hq19, h⟩ := px_bind h
        dsimp only at h
        refine Exists.intro 1 (Exists.intro vq19 (Exists.intro σq19 (And.intro (Nat.le_trans (Nat.le_of_ble_eq_true rfl) hfr) (And.intro (ok_Tape_accept_1 hq19) ?_))))
        rcases px_ite h with ⟨c20, h⟩ | ⟨c20, h⟩
        · refine And.intro (fun _ => ?_) (fun hn => absurd c20 hn)
          refine H [((0, 0, 0, 0, []), 1), ((27, 1, 0, 0, []), 1)] 43 _ _ _ (by decide +kernel) ?_
          refine And.intro (show (0 : Int) ≤ 0 ∧ (0 : Int) ≤ 1 from by decide) ?_
          exact Prod.mk.inj (Option.some.inj h)
        · refine And.intro (fun hp => absurd hp c20) (fun _ => ?_)
          refine And.intro (show (0 : Int) ≤ 1 ∧ (1 : Int) ≤ 1 from by decide) ?_
          exact Prod.mk.inj (Option.some.inj h)
  · refine And.intro (fun _ => ?_) (fun hn => absurd c2 hn)
    refine H [((2, 1, 0, 0, []), 1), ((23, 27, 0, 1, [(0, 1)]), 3), ((14, 0, 80, 0, []), 3), ((2, 1, 0, 0, []), 1), ((0, 0, 0, 5, []), 1), ((23, 28, 1, 1, [(0, 1)]), 3), ((3, 4, 0, 0, []), 2), ((2, 0, 0, 0, []), 1), ((0, 0, 0, 48, []), 2), ((1, 4, 0, 0, []), 2), ((23, 29, 2, 1, [(0, 57)]), 3), ((11, 0, 0, 0, []), 1), ((1, 4, 0, 0, []), 2), ((0, 0, 0, (-1), []), 1), ((13, 0, 78, 0, []), 3), ((0, 0, 0, 1, []), 1), ((12, 0, 79, 0, []), 3), ((27, 1, 0, 0, []), 1)] 45 _ _ _ (by decide +kernel) ?_
    obtain ⟨⟨vq3, σq3⟩, hq3, h⟩ := px_bind h
    dsimp only at h
    refine Exists.intro 1 (Exists.intro vq3 (Exists.intro σq3 (And.intro (Nat.le_trans (Nat.le_of_ble_eq_true rfl) hfr) (And.intro (ok_Tape_digitNext_1 hq3) ?_))))
    rcases px_ite h with ⟨c4, h⟩ | ⟨c4, h⟩
    · refine And.intro (fun _ => ?_) (fun hn => absurd c4 hn)
      refine H [((1, 3, 0, 0, []), 1), ((0, 0, 0, (-1), []), 1), ((13, 1, 89, 0, []), 3), ((0, 0, 0, (-1), []), 1), ((12, 0, 96, 0, []), 3), ((29, 2, 0, 0, []), 0), ((29, 3, 0, 0, []), 0)] 80 _ _ _ (by decide +kernel) ?_
      rcases px_ite h with ⟨c5, h⟩ | ⟨c5, h⟩
      · refine And.intro (fun hp => absurd c5 hp) (fun _ => ?_)
        exact ok_Law_readFactor_57_1_p96 hrc hfd hfr H _ _ h
      · refine And.intro (fun _ => ?_) (fun hn => absurd c5 hn)
        refine H [((30, 3, 0, 0, []), 7), ((29, 2, 0, 0, []), 0), ((29, 3, 0, 0, []), 0)] 89 _ _ _ (by decide +kernel) ?_
        refine And.intro (Nat.le_trans (Nat.le_of_ble_eq_true rfl) hfr) ?_
        obtain ⟨g6, h⟩ := px_gd h
        refine And.intro g6 ?_
        exact ok_Law_readFactor_57_1_p96 hrc hfd hfr H _ _ h
    · refine And.intro (fun hp => absurd hp c4) (fun _ => ?_)
      obtain ⟨⟨vq12, σq12⟩, hq12, h⟩ := px_bind h
      dsimp only at h
      refine Exists.intro 2 (Exists.intro vq12 (Exists.intro σq12 (And.intro (Nat.le_trans (Nat.le_of_ble_eq_true rfl) hfr) (And.intro (ok_Tape_readDigits_1 hq12) ?_))))
      obtain ⟨⟨vq13, σq13⟩, hq13, h⟩ := px_bind h
      dsimp only at h
      refine Exists.intro 0 (Exists.intro vq13 (Exists.intro σq13 (And.intro (Nat.le_trans (Nat.le_of_ble_eq_true rfl) hfr) (And.intro (ok_Law_addStep_57 hq13) ?_))))
      rcases px_ite h with ⟨c14, h⟩ | ⟨c14, h⟩
      · refine And.intro (fun _ => ?_) (fun hn => absurd c14 hn)
        refine H [((0, 0, 0, 0, []), 1), ((27, 1, 0, 0, []), 1)] 78 _ _ _ (by decide +kernel) ?_
        refine And.intro (show (0 : Int) ≤ 0 ∧ (0 : Int) ≤ 1 from by decide) ?_
        exact Prod.mk.inj (Option.some.inj h)
      · refine And.intro (fun hp => absurd hp c14) (fun _ => ?_)
        refine And.intro (show (0 : Int) ≤ 1 ∧ (1 : Int) ≤ 1 from by decide) ?_
        exact Prod.mk.inj (Option.some.inj h)
theorem ok_Law_readFactor_57_1 {l : Launch} {fd fr : Nat} {rc : Nat → Int → pS → Option (Int × pS)} (hrc : ∀ w a σ v σ1, rc w a σ = some (v, σ1) → Con l fd (mi_rdS w) [.inr 57, .inr 1, .inl a] σ v σ1) (hfd : fd + 1 ≤ fr) (hfr : 4 ≤ fr) {a2 : Int} {σ : pS} {v : Int} {σ1 : pS} (h : f_Law_readFactor_57_1 rc a2 σ = some (v, σ1)) : Con l fr 24 [.inr 57, .inr 1, .inl a2] σ v σ1 := Con_mk 3 5 rfl (by decide +kernel) (fun _ H => ok_Law_readFactor_57_1_w hrc hfd hfr H _ _ h)
def rdS : Nat → Nat → Int → pS → Option (Int × pS)
  | 0, _, _, _ => none
  | d + 1, 0, a, σ => f_Law_readSum_57_1 (rdS d) a σ
  | d + 1, 1, a, σ => f_Law_readProduct_57_1 (rdS d) a σ
  | d + 1, _, a, σ => f_Law_readFactor_57_1 (rdS d) a σ
theorem ok_rdS {l : Launch} : ∀ (d w : Nat) (a : Int) (σ : pS) (v : Int) (σ1 : pS), rdS d w a σ = some (v, σ1) → Con l (4 + d) (mi_rdS w) [.inr 57, .inr 1, .inl a] σ v σ1
  | 0, w, a, σ, v, σ1, h => by cases h
  | d + 1, w, a, σ, v, σ1, h => by
    match w, h with
    | 0, h => exact ok_Law_readSum_57_1 (fun w a σ v σ1 h => ok_rdS d w a σ v σ1 h) (Nat.le_refl _) (by omega) h
    | 1, h => exact ok_Law_readProduct_57_1 (fun w a σ v σ1 h => ok_rdS d w a σ v σ1 h) (Nat.le_refl _) (by omega) h
    | _ + 2, h => exact ok_Law_readFactor_57_1 (fun w a σ v σ1 h => ok_rdS d w a σ v σ1 h) (Nat.le_refl _) (by omega) h
def f_Law_readTest_57_1_p123 (rc : Nat → Int → pS → Option (Int × pS)) (a2 a3 : Int) (σ : pS) : Option (Int × pS) := (f_Tape_step_1  σ).bind fun q9 => ((rdS 40 0 a2 q9.2).bind fun q10 => (if q10.1 = 0 then (some (0, q10.2)) else ((f_Law_addStep_57 a3 0 q10.2).bind fun q12 => (some (1, q12.2)))))
def f_Law_readTest_57_1 (rc : Nat → Int → pS → Option (Int × pS)) (a2 : Int) (σ : pS) : Option (Int × pS) := (f_Tape_sign_1  σ).bind fun q1 => (if q1.1 = 33 then ((f_Law_opens_1 a2 q1.2).bind fun q23 => (if q23.1 = 0 then (some (0, q23.2)) else ((rc 2 (pw (a2 + 1)) q23.2).bind fun q25 => (if q25.1 = 0 then (some (0, q25.2)) else ((f_Law_addStep_57 33 0 q25.2).bind fun q27 => (some (1, q27.2))))))) else ((f_Tape_sign_1  q1.2).bind fun q3 => (if q3.1 = 40 then ((f_Law_opens_1 a2 q3.2).bind fun q17 => (if q17.1 = 0 then (some (0, q17.2)) else ((rc 0 (pw (a2 + 1)) q17.2).bind fun q19 => (if q19.1 = 0 then (some (0, q19.2)) else ((f_Tape_accept_1 41 q19.2).bind fun q21 => (if q21.1 = 0 then (some (0, q21.2)) else (some (1, q21.2)))))))) else ((rdS 40 0 a2 q3.2).bind fun q5 => (if q5.1 = 0 then (some (0, q5.2)) else ((f_Tape_sign_1  q5.2).bind fun q7 => (if q7.1 = 60 then (f_Law_readTest_57_1_p123 rc a2 q7.1 q7.2) else (if q7.1 = 62 then (f_Law_readTest_57_1_p123 rc a2 q7.1 q7.2) else (if q7.1 = 61 then (f_Law_readTest_57_1_p123 rc a2 q7.1 q7.2) else ((f_Tape_fail_1 1 q7.2).bind fun q15 => (if 0 ≤ q15.1 ∧ q15.1 ≤ 1 then (some (q15.1, q15.2)) else none)))))))))))
theorem ok_Law_readTest_57_1_p123 {l : Launch} {rv : Int} {rσ : pS} {G : Nat → pL → List pV → pS → Prop} {fd fr : Nat} {rc : Nat → Int → pS → Option (Int × pS)} (hrc : ∀ w a σ v σ1, rc w a σ = some (v, σ1) → Con l fd (mi_rdC w) [.inr 57, .inr 1, .inl a] σ v σ1) (hfd : fd + 1 ≤ fr) (hfr : 45 ≤ fr) (H : px_R l fr 34 rv rσ G) : ∀ (a2 a3 : Int) (σ : pS), f_Law_readTest_57_1_p123 rc a2 a3 σ = some (rv, rσ) → G 123 [some (.inr 57), some (.inr 1), some (.inl a2), some (.inl a3)] [] σ := by
  intro a2 a3 σ h
  unfold f_Law_readTest_57_1_p123 at h
  refine H [((2, 1, 0, 0, []), 1), ((23, 21, 0, 0, [(0, 1)]), 3), ((2, 0, 0, 0, []), 1), ((2, 1, 0, 0, []), 1), ((1, 2, 0, 0, []), 1), ((23, 22, 2, 1, [(0, 57)]), 3), ((14, 1, 138, 0, []), 3), ((0, 0, 0, 0, []), 1), ((27, 1, 0, 0, []), 1)] 123 _ _ _ (by decide +kernel) ?_
  obtain ⟨⟨vq9, σq9⟩, hq9, h⟩ := px_bind h
  dsimp only at h
  refine Exists.intro 0 (Exists.intro vq9 (Exists.intro σq9 (And.intro (Nat.le_trans (Nat.le_of_ble_eq_true rfl) hfr) (And.intro (ok_Tape_step_1 hq9) ?_))))
  obtain ⟨⟨vq10, σq10⟩, hq10, h⟩ := px_bind h
  dsimp only at h
  refine Exists.intro 44 (Exists.intro vq10 (Exists.intro σq10 (And.intro (Nat.le_trans (Nat.le_of_ble_eq_true rfl) hfr) (And.intro (ok_rdS 40 _ _ _ _ _ hq10) ?_))))
  rcases px_ite h with ⟨c11, h⟩ | ⟨c11, h⟩
  · refine And.intro (fun hp => absurd c11 hp) (fun _ => ?_)
    refine And.intro (show (0 : Int) ≤ 0 ∧ (0 : Int) ≤ 1 from by decide) ?_
    exact Prod.mk.inj (Option.some.inj h)
  · refine And.intro (fun _ => ?_) (fun hn => absurd c11 hn)
    refine H [((2, 0, 0, 0, []), 1), ((1, 3, 0, 0, []), 1), ((0, 0, 0, 0, []), 1), ((23, 29, 2, 1, [(0, 57)]), 3), ((11, 0, 0, 0, []), 1), ((0, 0, 0, 1, []), 1), ((27, 1, 0, 0, []), 1)] 138 _ _ _ (by decide +kernel) ?_
    obtain ⟨⟨vq12, σq12⟩, hq12, h⟩ := px_bind h
    dsimp only at h
    refine Exists.intro 0 (Exists.intro vq12 (Exists.intro σq12 (And.intro (Nat.le_trans (Nat.le_of_ble_eq_true rfl) hfr) (And.intro (ok_Law_addStep_57 hq12) ?_))))
    refine And.intro (show (0 : Int) ≤ 1 ∧ (1 : Int) ≤ 1 from by decide) ?_
    exact Prod.mk.inj (Option.some.inj h)
theorem ok_Law_readTest_57_1_w {l : Launch} {rv : Int} {rσ : pS} {G : Nat → pL → List pV → pS → Prop} {fd fr : Nat} {rc : Nat → Int → pS → Option (Int × pS)} (hrc : ∀ w a σ v σ1, rc w a σ = some (v, σ1) → Con l fd (mi_rdC w) [.inr 57, .inr 1, .inl a] σ v σ1) (hfd : fd + 1 ≤ fr) (hfr : 45 ≤ fr) (H : px_R l fr 34 rv rσ G) : ∀ (a2 : Int) (σ : pS), f_Law_readTest_57_1 rc a2 σ = some (rv, rσ) → G 0 [some (.inr 57), some (.inr 1), some (.inl a2), none] [] σ := by
  intro a2 σ h
  unfold f_Law_readTest_57_1 at h
  refine H [((2, 1, 0, 0, []), 1), ((23, 19, 0, 1, [(0, 1)]), 3), ((0, 0, 0, 33, []), 2), ((13, 1, 40, 0, []), 3), ((2, 1, 0, 0, []), 1), ((1, 2, 0, 0, []), 1), ((24, 25, 2, 1, []), 3), ((14, 0, 28, 0, []), 3), ((2, 0, 0, 0, []), 1), ((2, 1, 0, 0, []), 1), ((1, 2, 0, 0, []), 1), ((0, 0, 0, 1, []), 1), ((6, 0, 0, 0, []), 1), ((23, 34, 2, 1, [(0, 57)]), 3), ((14, 1, 30, 0, []), 3), ((0, 0, 0, 0, []), 1), ((27, 1, 0, 0, []), 1)] 0 _ _ _ (by decide +kernel) ?_
  obtain ⟨⟨vq1, σq1⟩, hq1, h⟩ := px_bind h
  dsimp only at h
  refine Exists.intro 0 (Exists.intro vq1 (Exists.intro σq1 (And.intro (Nat.le_trans (Nat.le_of_ble_eq_true rfl) hfr) (And.intro (ok_Tape_sign_1 hq1) ?_))))
  rcases px_ite h with ⟨c2, h⟩ | ⟨c2, h⟩
  · refine And.intro (fun hp => absurd c2 hp) (fun _ => ?_)
    obtain ⟨⟨vq23, σq23⟩, hq23, h⟩ := px_bind h
    dsimp only at h
    refine Exists.intro 1 (Exists.intro vq23 (Exists.intro σq23 (And.intro (Nat.le_trans (Nat.le_of_ble_eq_true rfl) hfr) (And.intro (ok_Law_opens_1 hq23) ?_))))
    rcases px_ite h with ⟨c24, h⟩ | ⟨c24, h⟩
    · refine And.intro (fun _ => ?_) (fun hn => absurd c24 hn)
      refine H [((0, 0, 0, 0, []), 1), ((27, 1, 0, 0, []), 1)] 28 _ _ _ (by decide +kernel) ?_
      refine And.intro (show (0 : Int) ≤ 0 ∧ (0 : Int) ≤ 1 from by decide) ?_
      exact Prod.mk.inj (Option.some.inj h)
    · refine And.intro (fun hp => absurd hp c24) (fun _ => ?_)
      obtain ⟨⟨vq25, σq25⟩, hq25, h⟩ := px_bind h
      dsimp only at h
      refine Exists.intro fd (Exists.intro vq25 (Exists.intro σq25 (And.intro hfd (And.intro (hrc 2 _ _ _ _ hq25) ?_))))
      rcases px_ite h with ⟨c26, h⟩ | ⟨c26, h⟩
      · refine And.intro (fun hp => absurd c26 hp) (fun _ => ?_)
        refine And.intro (show (0 : Int) ≤ 0 ∧ (0 : Int) ≤ 1 from by decide) ?_
        exact Prod.mk.inj (Option.some.inj h)
      · refine And.intro (fun _ => ?_) (fun hn => absurd c26 hn)
        refine H [((2, 0, 0, 0, []), 1), ((0, 0, 0, 33, []), 2), ((0, 0, 0, 0, []), 1), ((23, 29, 2, 1, [(0, 57)]), 3), ((11, 0, 0, 0, []), 1), ((0, 0, 0, 1, []), 1), ((27, 1, 0, 0, []), 1)] 30 _ _ _ (by decide +kernel) ?_
        obtain ⟨⟨vq27, σq27⟩, hq27, h⟩ := px_bind h
        dsimp only at h
        refine Exists.intro 0 (Exists.intro vq27 (Exists.intro σq27 (And.intro (Nat.le_trans (Nat.le_of_ble_eq_true rfl) hfr) (And.intro (ok_Law_addStep_57 hq27) ?_))))
        refine And.intro (show (0 : Int) ≤ 1 ∧ (1 : Int) ≤ 1 from by decide) ?_
        exact Prod.mk.inj (Option.some.inj h)
  · refine And.intro (fun _ => ?_) (fun hn => absurd c2 hn)
    refine H [((2, 1, 0, 0, []), 1), ((23, 19, 0, 1, [(0, 1)]), 3), ((0, 0, 0, 40, []), 2), ((13, 1, 83, 0, []), 3), ((2, 1, 0, 0, []), 1), ((1, 2, 0, 0, []), 1), ((24, 25, 2, 1, []), 3), ((14, 0, 81, 0, []), 3), ((2, 0, 0, 0, []), 1), ((2, 1, 0, 0, []), 1), ((1, 2, 0, 0, []), 1), ((0, 0, 0, 1, []), 1), ((6, 0, 0, 0, []), 1), ((23, 32, 2, 1, [(0, 57)]), 3), ((14, 0, 81, 0, []), 3), ((2, 1, 0, 0, []), 1), ((0, 0, 0, 41, []), 2), ((23, 26, 1, 1, [(0, 1)]), 3), ((14, 0, 81, 0, []), 3), ((0, 0, 0, 1, []), 1), ((12, 0, 82, 0, []), 3), ((27, 1, 0, 0, []), 1)] 40 _ _ _ (by decide +kernel) ?_
    obtain ⟨⟨vq3, σq3⟩, hq3, h⟩ := px_bind h
    dsimp only at h
    refine Exists.intro 0 (Exists.intro vq3 (Exists.intro σq3 (And.intro (Nat.le_trans (Nat.le_of_ble_eq_true rfl) hfr) (And.intro (ok_Tape_sign_1 hq3) ?_))))
    rcases px_ite h with ⟨c4, h⟩ | ⟨c4, h⟩
    · refine And.intro (fun hp => absurd c4 hp) (fun _ => ?_)
      obtain ⟨⟨vq17, σq17⟩, hq17, h⟩ := px_bind h
      dsimp only at h
      refine Exists.intro 1 (Exists.intro vq17 (Exists.intro σq17 (And.intro (Nat.le_trans (Nat.le_of_ble_eq_true rfl) hfr) (And.intro (ok_Law_opens_1 hq17) ?_))))
      rcases px_ite h with ⟨c18, h⟩ | ⟨c18, h⟩
      · refine And.intro (fun _ => ?_) (fun hn => absurd c18 hn)
        refine H [((0, 0, 0, 0, []), 1), ((27, 1, 0, 0, []), 1)] 81 _ _ _ (by decide +kernel) ?_
        refine And.intro (show (0 : Int) ≤ 0 ∧ (0 : Int) ≤ 1 from by decide) ?_
        exact Prod.mk.inj (Option.some.inj h)
      · refine And.intro (fun hp => absurd hp c18) (fun _ => ?_)
        obtain ⟨⟨vq19, σq19⟩, hq19, h⟩ := px_bind h
        dsimp only at h
        refine Exists.intro fd (Exists.intro vq19 (Exists.intro σq19 (And.intro hfd (And.intro (hrc 0 _ _ _ _ hq19) ?_))))
        rcases px_ite h with ⟨c20, h⟩ | ⟨c20, h⟩
        · refine And.intro (fun _ => ?_) (fun hn => absurd c20 hn)
          refine H [((0, 0, 0, 0, []), 1), ((27, 1, 0, 0, []), 1)] 81 _ _ _ (by decide +kernel) ?_
          refine And.intro (show (0 : Int) ≤ 0 ∧ (0 : Int) ≤ 1 from by decide) ?_
          exact Prod.mk.inj (Option.some.inj h)
        · refine And.intro (fun hp => absurd hp c20) (fun _ => ?_)
          obtain ⟨⟨vq21, σq21⟩, hq21, h⟩ := px_bind h
          dsimp only at h
          refine Exists.intro 1 (Exists.intro vq21 (Exists.intro σq21 (And.intro (Nat.le_trans (Nat.le_of_ble_eq_true rfl) hfr) (And.intro (ok_Tape_accept_1 hq21) ?_))))
          rcases px_ite h with ⟨c22, h⟩ | ⟨c22, h⟩
          · refine And.intro (fun _ => ?_) (fun hn => absurd c22 hn)
            refine H [((0, 0, 0, 0, []), 1), ((27, 1, 0, 0, []), 1)] 81 _ _ _ (by decide +kernel) ?_
            refine And.intro (show (0 : Int) ≤ 0 ∧ (0 : Int) ≤ 1 from by decide) ?_
            exact Prod.mk.inj (Option.some.inj h)
          · refine And.intro (fun hp => absurd hp c22) (fun _ => ?_)
            refine And.intro (show (0 : Int) ≤ 1 ∧ (1 : Int) ≤ 1 from by decide) ?_
            exact Prod.mk.inj (Option.some.inj h)
    · refine And.intro (fun _ => ?_) (fun hn => absurd c4 hn)
      refine H [((2, 0, 0, 0, []), 1), ((2, 1, 0, 0, []), 1), ((1, 2, 0, 0, []), 1), ((23, 22, 2, 1, [(0, 57)]), 3), ((14, 1, 94, 0, []), 3), ((0, 0, 0, 0, []), 1), ((27, 1, 0, 0, []), 1)] 83 _ _ _ (by decide +kernel) ?_
      obtain ⟨⟨vq5, σq5⟩, hq5, h⟩ := px_bind h
      dsimp only at h
      refine Exists.intro 44 (Exists.intro vq5 (Exists.intro σq5 (And.intro (Nat.le_trans (Nat.le_of_ble_eq_true rfl) hfr) (And.intro (ok_rdS 40 _ _ _ _ _ hq5) ?_))))
      rcases px_ite h with ⟨c6, h⟩ | ⟨c6, h⟩
      · refine And.intro (fun hp => absurd c6 hp) (fun _ => ?_)
        refine And.intro (show (0 : Int) ≤ 0 ∧ (0 : Int) ≤ 1 from by decide) ?_
        exact Prod.mk.inj (Option.some.inj h)
      · refine And.intro (fun _ => ?_) (fun hn => absurd c6 hn)
        refine H [((2, 1, 0, 0, []), 1), ((23, 19, 0, 1, [(0, 1)]), 3), ((3, 3, 0, 0, []), 1), ((1, 3, 0, 0, []), 1), ((0, 0, 0, 60, []), 2), ((13, 0, 123, 0, []), 3), ((1, 3, 0, 0, []), 1), ((0, 0, 0, 62, []), 2), ((13, 0, 123, 0, []), 3), ((1, 3, 0, 0, []), 1), ((0, 0, 0, 61, []), 2), ((13, 0, 123, 0, []), 3), ((2, 1, 0, 0, []), 1), ((0, 0, 0, 1, []), 1), ((23, 20, 1, 1, [(0, 1)]), 3), ((27, 1, 0, 0, []), 1)] 94 _ _ _ (by decide +kernel) ?_
        obtain ⟨⟨vq7, σq7⟩, hq7, h⟩ := px_bind h
        dsimp only at h
        refine Exists.intro 0 (Exists.intro vq7 (Exists.intro σq7 (And.intro (Nat.le_trans (Nat.le_of_ble_eq_true rfl) hfr) (And.intro (ok_Tape_sign_1 hq7) ?_))))
        rcases px_ite h with ⟨c8, h⟩ | ⟨c8, h⟩
        · refine And.intro (fun _ => ?_) (fun hn => absurd c8 hn)
          exact ok_Law_readTest_57_1_p123 hrc hfd hfr H _ _ _ h
        · refine And.intro (fun hp => absurd hp c8) (fun _ => ?_)
          rcases px_ite h with ⟨c13, h⟩ | ⟨c13, h⟩
          · refine And.intro (fun _ => ?_) (fun hn => absurd c13 hn)
            exact ok_Law_readTest_57_1_p123 hrc hfd hfr H _ _ _ h
          · refine And.intro (fun hp => absurd hp c13) (fun _ => ?_)
            rcases px_ite h with ⟨c14, h⟩ | ⟨c14, h⟩
            · refine And.intro (fun _ => ?_) (fun hn => absurd c14 hn)
              exact ok_Law_readTest_57_1_p123 hrc hfd hfr H _ _ _ h
            · refine And.intro (fun hp => absurd hp c14) (fun _ => ?_)
              obtain ⟨⟨vq15, σq15⟩, hq15, h⟩ := px_bind h
              dsimp only at h
              refine Exists.intro 0 (Exists.intro vq15 (Exists.intro σq15 (And.intro (Nat.le_trans (Nat.le_of_ble_eq_true rfl) hfr) (And.intro (ok_Tape_fail_1 hq15) ?_))))
              obtain ⟨g16, h⟩ := px_gd h
              refine And.intro g16 ?_
              exact Prod.mk.inj (Option.some.inj h)
theorem ok_Law_readTest_57_1 {l : Launch} {fd fr : Nat} {rc : Nat → Int → pS → Option (Int × pS)} (hrc : ∀ w a σ v σ1, rc w a σ = some (v, σ1) → Con l fd (mi_rdC w) [.inr 57, .inr 1, .inl a] σ v σ1) (hfd : fd + 1 ≤ fr) (hfr : 45 ≤ fr) {a2 : Int} {σ : pS} {v : Int} {σ1 : pS} (h : f_Law_readTest_57_1 rc a2 σ = some (v, σ1)) : Con l fr 34 [.inr 57, .inr 1, .inl a2] σ v σ1 := Con_mk 3 4 rfl (by decide +kernel) (fun _ H => ok_Law_readTest_57_1_w hrc hfd hfr H _ _ h)
def rdC : Nat → Nat → Int → pS → Option (Int × pS)
  | 0, _, _, _ => none
  | d + 1, 0, a, σ => f_Law_readEither_57_1 (rdC d) a σ
  | d + 1, 1, a, σ => f_Law_readBoth_57_1 (rdC d) a σ
  | d + 1, _, a, σ => f_Law_readTest_57_1 (rdC d) a σ
theorem ok_rdC {l : Launch} : ∀ (d w : Nat) (a : Int) (σ : pS) (v : Int) (σ1 : pS), rdC d w a σ = some (v, σ1) → Con l (45 + d) (mi_rdC w) [.inr 57, .inr 1, .inl a] σ v σ1
  | 0, w, a, σ, v, σ1, h => by cases h
  | d + 1, w, a, σ, v, σ1, h => by
    match w, h with
    | 0, h => exact ok_Law_readEither_57_1 (fun w a σ v σ1 h => ok_rdC d w a σ v σ1 h) (Nat.le_refl _) (by omega) h
    | 1, h => exact ok_Law_readBoth_57_1 (fun w a σ v σ1 h => ok_rdC d w a σ v σ1 h) (Nat.le_refl _) (by omega) h
    | _ + 2, h => exact ok_Law_readTest_57_1 (fun w a σ v σ1 h => ok_rdC d w a σ v σ1 h) (Nat.le_refl _) (by omega) h
def f_Law_readRule_57_1_p73 (a2 : Int) (σ : pS) : Option (Int × pS) := if 0 ≤ a2 ∧ a2 < 16 then ((f_Tape_accept_1 40 (pU σ 60 (a2.toNat) (σ 57 8))).bind fun q9 => (if q9.1 = 0 then (some (0, q9.2)) else ((rdC 40 0 1 q9.2).bind fun q11 => (if q11.1 = 0 then (some (0, q11.2)) else ((f_Tape_accept_1 41 q11.2).bind fun q13 => (if q13.1 = 0 then (some (0, q13.2)) else (if 0 ≤ (pw (a2 + 1)) ∧ (pw (a2 + 1)) < 17 then (some (1, pU q13.2 59 ((pw (a2 + 1)).toNat) (q13.2 57 8))) else none))))))) else none
def f_Law_readRule_57_1_p23 (a2 a3 : Int) (σ : pS) : Option (Int × pS) := if a2 < 16 then ((f_Tape_step_1  σ).bind fun q4 => (if 0 ≤ a2 ∧ a2 < 16 then (if 0 ≤ a2 ∧ a2 < 17 then (if a3 = 100 then ((rdS 40 0 0 (pU (pU q4.2 58 (a2.toNat) a3) 59 (a2.toNat) (q4.2 57 8))).bind fun q16 => (if q16.1 = 0 then (some (0, q16.2)) else (f_Law_readRule_57_1_p73 a2 q16.2))) else (f_Law_readRule_57_1_p73 a2 (pU (pU q4.2 58 (a2.toNat) a3) 59 (a2.toNat) (q4.2 57 8)))) else none) else none)) else ((f_Tape_fail_1 4 σ).bind fun q18 => (if 0 ≤ q18.1 ∧ q18.1 ≤ 1 then (some (q18.1, q18.2)) else none))
def f_Law_readRule_57_1 (a2 : Int) (σ : pS) : Option (Int × pS) := (f_Tape_sign_1  σ).bind fun q1 => (if q1.1 = 100 then (f_Law_readRule_57_1_p23 a2 q1.1 q1.2) else (if q1.1 = 120 then (f_Law_readRule_57_1_p23 a2 q1.1 q1.2) else ((f_Tape_fail_1 1 q1.2).bind fun q21 => (if 0 ≤ q21.1 ∧ q21.1 ≤ 1 then (some (q21.1, q21.2)) else none))))
theorem ok_Law_readRule_57_1_p73 {l : Launch} {rv : Int} {rσ : pS} {G : Nat → pL → List pV → pS → Prop} (H : px_R l 86 18 rv rσ G) : ∀ (a2 : Int) (σ : pS), f_Law_readRule_57_1_p73 a2 σ = some (rv, rσ) → G 73 [some (.inr 57), some (.inr 1), some (.inl a2), none] [] σ := by
  intro a2 σ h
  unfold f_Law_readRule_57_1_p73 at h
  refine H [((2, 0, 0, 0, []), 1), ((17, 57, 60, 0, []), 3), ((1, 2, 0, 0, []), 1), ((2, 0, 0, 0, []), 1), ((16, 57, 8, 0, []), 3), ((20, 60, 16, 0, []), 1), ((2, 1, 0, 0, []), 1), ((0, 0, 0, 40, []), 2), ((23, 26, 1, 1, [(0, 1)]), 3), ((14, 0, 110, 0, []), 3), ((2, 0, 0, 0, []), 1), ((2, 1, 0, 0, []), 1), ((0, 0, 0, 1, []), 1), ((23, 32, 2, 1, [(0, 57)]), 3), ((14, 0, 110, 0, []), 3), ((2, 1, 0, 0, []), 1), ((0, 0, 0, 41, []), 2), ((23, 26, 1, 1, [(0, 1)]), 3), ((14, 1, 112, 0, []), 3), ((0, 0, 0, 0, []), 1), ((27, 1, 0, 0, []), 1)] 73 _ _ _ (by decide +kernel) ?_
  obtain ⟨g8, h⟩ := px_gd h
  refine And.intro g8 ?_
  obtain ⟨⟨vq9, σq9⟩, hq9, h⟩ := px_bind h
  dsimp only at h
  refine Exists.intro 1 (Exists.intro vq9 (Exists.intro σq9 (And.intro (Nat.le_of_ble_eq_true rfl) (And.intro (ok_Tape_accept_1 hq9) ?_))))
  rcases px_ite h with ⟨c10, h⟩ | ⟨c10, h⟩
  · refine And.intro (fun _ => ?_) (fun hn => absurd c10 hn)
    refine H [((0, 0, 0, 0, []), 1), ((27, 1, 0, 0, []), 1)] 110 _ _ _ (by decide +kernel) ?_
    refine And.intro (show (0 : Int) ≤ 0 ∧ (0 : Int) ≤ 1 from by decide) ?_
    exact Prod.mk.inj (Option.some.inj h)
  · refine And.intro (fun hp => absurd hp c10) (fun _ => ?_)
    obtain ⟨⟨vq11, σq11⟩, hq11, h⟩ := px_bind h
    dsimp only at h
    refine Exists.intro 85 (Exists.intro vq11 (Exists.intro σq11 (And.intro (Nat.le_of_ble_eq_true rfl) (And.intro (ok_rdC 40 _ _ _ _ _ hq11) ?_))))
    rcases px_ite h with ⟨c12, h⟩ | ⟨c12, h⟩
    · refine And.intro (fun _ => ?_) (fun hn => absurd c12 hn)
      refine H [((0, 0, 0, 0, []), 1), ((27, 1, 0, 0, []), 1)] 110 _ _ _ (by decide +kernel) ?_
      refine And.intro (show (0 : Int) ≤ 0 ∧ (0 : Int) ≤ 1 from by decide) ?_
      exact Prod.mk.inj (Option.some.inj h)
    · refine And.intro (fun hp => absurd hp c12) (fun _ => ?_)
      obtain ⟨⟨vq13, σq13⟩, hq13, h⟩ := px_bind h
      dsimp only at h
      refine Exists.intro 1 (Exists.intro vq13 (Exists.intro σq13 (And.intro (Nat.le_of_ble_eq_true rfl) (And.intro (ok_Tape_accept_1 hq13) ?_))))
      rcases px_ite h with ⟨c14, h⟩ | ⟨c14, h⟩
      · refine And.intro (fun hp => absurd c14 hp) (fun _ => ?_)
        refine And.intro (show (0 : Int) ≤ 0 ∧ (0 : Int) ≤ 1 from by decide) ?_
        exact Prod.mk.inj (Option.some.inj h)
      · refine And.intro (fun _ => ?_) (fun hn => absurd c14 hn)
        refine H [((2, 0, 0, 0, []), 1), ((17, 57, 59, 0, []), 3), ((1, 2, 0, 0, []), 1), ((0, 0, 0, 1, []), 1), ((6, 0, 0, 0, []), 1), ((2, 0, 0, 0, []), 1), ((16, 57, 8, 0, []), 3), ((20, 59, 17, 0, []), 1), ((0, 0, 0, 1, []), 1), ((27, 1, 0, 0, []), 1)] 112 _ _ _ (by decide +kernel) ?_
        obtain ⟨g15, h⟩ := px_gd h
        refine And.intro g15 ?_
        refine And.intro (show (0 : Int) ≤ 1 ∧ (1 : Int) ≤ 1 from by decide) ?_
        exact Prod.mk.inj (Option.some.inj h)
theorem ok_Law_readRule_57_1_p23 {l : Launch} {rv : Int} {rσ : pS} {G : Nat → pL → List pV → pS → Prop} (H : px_R l 86 18 rv rσ G) : ∀ (a2 a3 : Int) (σ : pS), f_Law_readRule_57_1_p23 a2 a3 σ = some (rv, rσ) → G 23 [some (.inr 57), some (.inr 1), some (.inl a2), some (.inl a3)] [] σ := by
  intro a2 a3 σ h
  unfold f_Law_readRule_57_1_p23 at h
  refine H [((1, 2, 0, 0, []), 1), ((0, 0, 0, 16, []), 2), ((13, 2, 35, 0, []), 3), ((2, 1, 0, 0, []), 1), ((0, 0, 0, 4, []), 1), ((23, 20, 1, 1, [(0, 1)]), 3), ((27, 1, 0, 0, []), 1)] 23 _ _ _ (by decide +kernel) ?_
  rcases px_ite h with ⟨c3, h⟩ | ⟨c3, h⟩
  · refine And.intro (fun _ => ?_) (fun hn => absurd c3 hn)
    refine H [((2, 1, 0, 0, []), 1), ((23, 21, 0, 0, [(0, 1)]), 3), ((2, 0, 0, 0, []), 1), ((17, 57, 58, 0, []), 3), ((1, 2, 0, 0, []), 1), ((1, 3, 0, 0, []), 1), ((20, 58, 16, 0, []), 1), ((2, 0, 0, 0, []), 1), ((17, 57, 59, 0, []), 3), ((1, 2, 0, 0, []), 1), ((2, 0, 0, 0, []), 1), ((16, 57, 8, 0, []), 3), ((20, 59, 17, 0, []), 1), ((1, 3, 0, 0, []), 1), ((0, 0, 0, 100, []), 2), ((13, 1, 73, 0, []), 3), ((2, 0, 0, 0, []), 1), ((2, 1, 0, 0, []), 1), ((0, 0, 0, 0, []), 1), ((23, 22, 2, 1, [(0, 57)]), 3), ((14, 1, 73, 0, []), 3), ((0, 0, 0, 0, []), 1), ((27, 1, 0, 0, []), 1)] 35 _ _ _ (by decide +kernel) ?_
    obtain ⟨⟨vq4, σq4⟩, hq4, h⟩ := px_bind h
    dsimp only at h
    refine Exists.intro 0 (Exists.intro vq4 (Exists.intro σq4 (And.intro (Nat.le_of_ble_eq_true rfl) (And.intro (ok_Tape_step_1 hq4) ?_))))
    obtain ⟨g5, h⟩ := px_gd h
    refine And.intro g5 ?_
    obtain ⟨g6, h⟩ := px_gd h
    refine And.intro g6 ?_
    rcases px_ite h with ⟨c7, h⟩ | ⟨c7, h⟩
    · refine And.intro (fun hp => absurd c7 hp) (fun _ => ?_)
      obtain ⟨⟨vq16, σq16⟩, hq16, h⟩ := px_bind h
      dsimp only at h
      refine Exists.intro 44 (Exists.intro vq16 (Exists.intro σq16 (And.intro (Nat.le_of_ble_eq_true rfl) (And.intro (ok_rdS 40 _ _ _ _ _ hq16) ?_))))
      rcases px_ite h with ⟨c17, h⟩ | ⟨c17, h⟩
      · refine And.intro (fun hp => absurd c17 hp) (fun _ => ?_)
        refine And.intro (show (0 : Int) ≤ 0 ∧ (0 : Int) ≤ 1 from by decide) ?_
        exact Prod.mk.inj (Option.some.inj h)
      · refine And.intro (fun _ => ?_) (fun hn => absurd c17 hn)
        refine H [((29, 3, 0, 0, []), 0)] 73 _ _ _ (by decide +kernel) ?_
        exact ok_Law_readRule_57_1_p73 H _ _ h
    · refine And.intro (fun _ => ?_) (fun hn => absurd c7 hn)
      refine H [((29, 3, 0, 0, []), 0)] 73 _ _ _ (by decide +kernel) ?_
      exact ok_Law_readRule_57_1_p73 H _ _ h
  · refine And.intro (fun hp => absurd hp c3) (fun _ => ?_)
    obtain ⟨⟨vq18, σq18⟩, hq18, h⟩ := px_bind h
    dsimp only at h
    refine Exists.intro 0 (Exists.intro vq18 (Exists.intro σq18 (And.intro (Nat.le_of_ble_eq_true rfl) (And.intro (ok_Tape_fail_1 hq18) ?_))))
    obtain ⟨g19, h⟩ := px_gd h
    refine And.intro g19 ?_
    exact Prod.mk.inj (Option.some.inj h)
theorem ok_Law_readRule_57_1_w {l : Launch} {rv : Int} {rσ : pS} {G : Nat → pL → List pV → pS → Prop} (H : px_R l 86 18 rv rσ G) : ∀ (a2 : Int) (σ : pS), f_Law_readRule_57_1 a2 σ = some (rv, rσ) → G 0 [some (.inr 57), some (.inr 1), some (.inl a2), none] [] σ := by
  intro a2 σ h
  unfold f_Law_readRule_57_1 at h
  refine H [((2, 1, 0, 0, []), 1), ((23, 19, 0, 1, [(0, 1)]), 3), ((3, 3, 0, 0, []), 1), ((1, 3, 0, 0, []), 1), ((0, 0, 0, 100, []), 2), ((13, 0, 23, 0, []), 3), ((1, 3, 0, 0, []), 1), ((0, 0, 0, 120, []), 2), ((13, 0, 23, 0, []), 3), ((2, 1, 0, 0, []), 1), ((0, 0, 0, 1, []), 1), ((23, 20, 1, 1, [(0, 1)]), 3), ((27, 1, 0, 0, []), 1)] 0 _ _ _ (by decide +kernel) ?_
  obtain ⟨⟨vq1, σq1⟩, hq1, h⟩ := px_bind h
  dsimp only at h
  refine Exists.intro 0 (Exists.intro vq1 (Exists.intro σq1 (And.intro (Nat.le_of_ble_eq_true rfl) (And.intro (ok_Tape_sign_1 hq1) ?_))))
  rcases px_ite h with ⟨c2, h⟩ | ⟨c2, h⟩
  · refine And.intro (fun _ => ?_) (fun hn => absurd c2 hn)
    exact ok_Law_readRule_57_1_p23 H _ _ _ h
  · refine And.intro (fun hp => absurd hp c2) (fun _ => ?_)
    rcases px_ite h with ⟨c20, h⟩ | ⟨c20, h⟩
    · refine And.intro (fun _ => ?_) (fun hn => absurd c20 hn)
      exact ok_Law_readRule_57_1_p23 H _ _ _ h
    · refine And.intro (fun hp => absurd hp c20) (fun _ => ?_)
      obtain ⟨⟨vq21, σq21⟩, hq21, h⟩ := px_bind h
      dsimp only at h
      refine Exists.intro 0 (Exists.intro vq21 (Exists.intro σq21 (And.intro (Nat.le_of_ble_eq_true rfl) (And.intro (ok_Tape_fail_1 hq21) ?_))))
      obtain ⟨g22, h⟩ := px_gd h
      refine And.intro g22 ?_
      exact Prod.mk.inj (Option.some.inj h)
theorem ok_Law_readRule_57_1 {l : Launch} {a2 : Int} {σ : pS} {v : Int} {σ1 : pS} (h : f_Law_readRule_57_1 a2 σ = some (v, σ1)) : Con l 86 18 [.inr 57, .inr 1, .inl a2] σ v σ1 := Con_mk 3 4 rfl (by decide +kernel) (fun _ H => ok_Law_readRule_57_1_w H _ _ h)
