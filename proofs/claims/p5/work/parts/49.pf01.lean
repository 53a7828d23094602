def f_Law_readFrom_57_1_p7 : Nat → Int → pS → Option (Int × pS)
  | 0, _, _ => none
  | n + 1, a2, σ => if 16 < a2 then ((f_Tape_fault_1  σ).bind fun q2 => (some (q2.1, q2.2))) else ((f_Law_readRule_57_1 a2 σ).bind fun q3 => (if q3.1 = 0 then ((f_Tape_fault_1  q3.2).bind fun q10 => (some (q10.1, q10.2))) else ((f_Tape_ended_1  q3.2).bind fun q5 => (if q5.1 = 0 then ((f_Tape_accept_1 59 q5.2).bind fun q7 => (if q7.1 = 0 then ((f_Tape_fault_1  q7.2).bind fun q9 => (some (q9.1, q9.2))) else (f_Law_readFrom_57_1_p7 n (pw (a2 + 1)) q7.2))) else (some (pw (a2 + 1), pU q5.2 57 7 (pw (a2 + 1))))))))
def f_Law_readFrom_57_1 (σ : pS) : Option (Int × pS) := f_Law_readFrom_57_1_p7 4096 0 (pU σ 57 8 0)
theorem ok_Law_readFrom_57_1_p7 {l : Launch} {rv : Int} {rσ : pS} {G : Nat → pL → List pV → pS → Prop} (H : px_R l 87 17 rv rσ G) : ∀ (n : Nat) (a2 : Int) (σ : pS), f_Law_readFrom_57_1_p7 n a2 σ = some (rv, rσ) → G 7 [some (.inr 57), some (.inr 1), some (.inl a2)] [] σ := by
  intro n
  induction n with
  | zero =>
    intro a2 σ h
    unfold f_Law_readFrom_57_1_p7 at h
    cases h
  | succ n ih =>
    intro a2 σ h
    unfold f_Law_readFrom_57_1_p7 at h
    refine H [((1, 2, 0, 0, []), 1), ((0, 0, 0, 16, []), 2), ((13, 4, 66, 0, []), 3), ((2, 0, 0, 0, []), 1), ((2, 1, 0, 0, []), 1), ((1, 2, 0, 0, []), 1), ((23, 18, 2, 1, [(0, 57)]), 3), ((14, 1, 27, 0, []), 3), ((2, 1, 0, 0, []), 1), ((23, 36, 0, 1, [(0, 1)]), 3), ((27, 0, 0, 0, []), 1)] 7 _ _ _ (by decide +kernel) ?_
    rcases px_ite h with ⟨c1, h⟩ | ⟨c1, h⟩
    · refine And.intro (fun _ => ?_) (fun hn => absurd c1 hn)
      refine H [((2, 1, 0, 0, []), 1), ((23, 36, 0, 1, [(0, 1)]), 3), ((27, 0, 0, 0, []), 1)] 66 _ _ _ (by decide +kernel) ?_
      obtain ⟨⟨vq2, σq2⟩, hq2, h⟩ := px_bind h
      dsimp only at h
      refine Exists.intro 0 (Exists.intro vq2 (Exists.intro σq2 (And.intro (Nat.le_of_ble_eq_true rfl) (And.intro (ok_Tape_fault_1 hq2) ?_))))
      exact Prod.mk.inj (Option.some.inj h)
    · refine And.intro (fun hp => absurd hp c1) (fun _ => ?_)
      obtain ⟨⟨vq3, σq3⟩, hq3, h⟩ := px_bind h
      dsimp only at h
      refine Exists.intro 86 (Exists.intro vq3 (Exists.intro σq3 (And.intro (Nat.le_of_ble_eq_true rfl) (And.intro (ok_Law_readRule_57_1 hq3) ?_))))
      rcases px_ite h with ⟨c4, h⟩ | ⟨c4, h⟩
      · refine And.intro (fun hp => absurd c4 hp) (fun _ => ?_)
        obtain ⟨⟨vq10, σq10⟩, hq10, h⟩ := px_bind h
        dsimp only at h
        refine Exists.intro 0 (Exists.intro vq10 (Exists.intro σq10 (And.intro (Nat.le_of_ble_eq_true rfl) (And.intro (ok_Tape_fault_1 hq10) ?_))))
        exact Prod.mk.inj (Option.some.inj h)
      · refine And.intro (fun _ => ?_) (fun hn => absurd c4 hn)
        refine H [((2, 1, 0, 0, []), 1), ((23, 37, 0, 1, [(0, 1)]), 3), ((14, 0, 46, 0, []), 3), ((2, 0, 0, 0, []), 1), ((1, 2, 0, 0, []), 1), ((0, 0, 0, 1, []), 1), ((6, 0, 0, 0, []), 1), ((18, 57, 7, 0, []), 3), ((2, 0, 0, 0, []), 1), ((16, 57, 7, 0, []), 3), ((27, 0, 0, 0, []), 1)] 27 _ _ _ (by decide +kernel) ?_
        obtain ⟨⟨vq5, σq5⟩, hq5, h⟩ := px_bind h
        dsimp only at h
        refine Exists.intro 0 (Exists.intro vq5 (Exists.intro σq5 (And.intro (Nat.le_of_ble_eq_true rfl) (And.intro (ok_Tape_ended_1 hq5) ?_))))
        rcases px_ite h with ⟨c6, h⟩ | ⟨c6, h⟩
        · refine And.intro (fun _ => ?_) (fun hn => absurd c6 hn)
          refine H [((2, 1, 0, 0, []), 1), ((0, 0, 0, 59, []), 2), ((23, 26, 1, 1, [(0, 1)]), 3), ((14, 1, 60, 0, []), 3), ((2, 1, 0, 0, []), 1), ((23, 36, 0, 1, [(0, 1)]), 3), ((27, 0, 0, 0, []), 1)] 46 _ _ _ (by decide +kernel) ?_
          obtain ⟨⟨vq7, σq7⟩, hq7, h⟩ := px_bind h
          dsimp only at h
          refine Exists.intro 1 (Exists.intro vq7 (Exists.intro σq7 (And.intro (Nat.le_of_ble_eq_true rfl) (And.intro (ok_Tape_accept_1 hq7) ?_))))
          rcases px_ite h with ⟨c8, h⟩ | ⟨c8, h⟩
          · refine And.intro (fun hp => absurd c8 hp) (fun _ => ?_)
            obtain ⟨⟨vq9, σq9⟩, hq9, h⟩ := px_bind h
            dsimp only at h
            refine Exists.intro 0 (Exists.intro vq9 (Exists.intro σq9 (And.intro (Nat.le_of_ble_eq_true rfl) (And.intro (ok_Tape_fault_1 hq9) ?_))))
            exact Prod.mk.inj (Option.some.inj h)
          · refine And.intro (fun _ => ?_) (fun hn => absurd c8 hn)
            refine H [((5, 2, 0, 1, []), 3), ((12, 0, 7, 0, []), 3)] 60 _ _ _ (by decide +kernel) ?_
            exact ih _ _ h
        · refine And.intro (fun hp => absurd hp c6) (fun _ => ?_)
          exact Prod.mk.inj (Option.some.inj h)
theorem ok_Law_readFrom_57_1_w {l : Launch} {rv : Int} {rσ : pS} {G : Nat → pL → List pV → pS → Prop} (H : px_R l 87 17 rv rσ G) : ∀ (σ : pS), f_Law_readFrom_57_1  σ = some (rv, rσ) → G 0 [some (.inr 57), some (.inr 1), none] [] σ := by
  intro  σ h
  unfold f_Law_readFrom_57_1 at h
  refine H [((2, 0, 0, 0, []), 1), ((0, 0, 0, 0, []), 1), ((18, 57, 8, 0, []), 3), ((0, 0, 0, 0, []), 1), ((3, 2, 0, 0, []), 1)] 0 _ _ _ (by decide +kernel) ?_
  exact ok_Law_readFrom_57_1_p7 H _ _ _ h
theorem ok_Law_readFrom_57_1 {l : Launch} {σ : pS} {v : Int} {σ1 : pS} (h : f_Law_readFrom_57_1  σ = some (v, σ1)) : Con l 87 17 [.inr 57, .inr 1] σ v σ1 := Con_mk 2 3 rfl (by decide +kernel) (fun _ H => ok_Law_readFrom_57_1_w H  _ h)
def f_Law_copyFrom_16_57 (σ : pS) : Option (Int × pS) := some (0, pU (pKp (pKp (pKp (pKp (pKp σ 58 17 16) 59 18 17) 60 19 16) 61 20 240) 62 21 240) 16 7 (σ 57 7))
theorem ok_Law_copyFrom_16_57_w {l : Launch} {rv : Int} {rσ : pS} {G : Nat → pL → List pV → pS → Prop} (H : px_R l 1 38 rv rσ G) : ∀ (σ : pS), f_Law_copyFrom_16_57  σ = some (rv, rσ) → G 0 [some (.inr 16), some (.inr 57)] [] σ := by
  intro  σ h
  unfold f_Law_copyFrom_16_57 at h
  refine H [((2, 1, 0, 0, []), 1), ((17, 57, 58, 0, []), 3), ((0, 0, 0, 0, []), 1), ((2, 0, 0, 0, []), 1), ((17, 16, 17, 0, []), 3), ((0, 0, 0, 0, []), 1), ((0, 0, 0, 16, []), 2), ((26, 58, 17, 16, []), 3), ((2, 1, 0, 0, []), 1), ((17, 57, 59, 0, []), 3), ((0, 0, 0, 0, []), 1), ((2, 0, 0, 0, []), 1), ((17, 16, 18, 0, []), 3), ((0, 0, 0, 0, []), 1), ((0, 0, 0, 17, []), 2), ((26, 59, 18, 17, []), 3), ((2, 1, 0, 0, []), 1), ((17, 57, 60, 0, []), 3), ((0, 0, 0, 0, []), 1), ((2, 0, 0, 0, []), 1), ((17, 16, 19, 0, []), 3), ((0, 0, 0, 0, []), 1), ((0, 0, 0, 16, []), 2), ((26, 60, 19, 16, []), 3), ((2, 1, 0, 0, []), 1), ((17, 57, 61, 0, []), 3), ((0, 0, 0, 0, []), 1), ((2, 0, 0, 0, []), 1), ((17, 16, 20, 0, []), 3), ((0, 0, 0, 0, []), 1), ((0, 0, 0, 240, []), 3), ((26, 61, 20, 240, []), 3), ((2, 1, 0, 0, []), 1), ((17, 57, 62, 0, []), 3), ((0, 0, 0, 0, []), 1), ((2, 0, 0, 0, []), 1), ((17, 16, 21, 0, []), 3), ((0, 0, 0, 0, []), 1), ((0, 0, 0, 240, []), 3), ((26, 62, 21, 240, []), 3), ((2, 0, 0, 0, []), 1), ((2, 1, 0, 0, []), 1), ((16, 57, 7, 0, []), 3), ((18, 16, 7, 0, []), 3), ((28, 0, 0, 0, []), 1)] 0 _ _ _ (by decide +kernel) ?_
  exact (Prod.mk.inj (Option.some.inj h)).2
theorem ok_Law_copyFrom_16_57 {l : Launch} {σ : pS} {v : Int} {σ1 : pS} (h : f_Law_copyFrom_16_57  σ = some (v, σ1)) : Con l 1 38 [.inr 16, .inr 57] σ v σ1 := Con_mk 2 2 rfl (by decide +kernel) (fun _ H => ok_Law_copyFrom_16_57_w H  _ h)
def f_X_law_0_p63 (a2 : Int) (σ : pS) : Option (Int × pS) := (f_Tape_clear_1  σ).bind fun q7 => (some (a2, q7.2))
def f_X_law_0 (a1 : Int) (σ : pS) : Option (Int × pS) := if a1 < 1 then (some ((-1), σ)) else (if 240 < a1 then (some ((-1), σ)) else (if a1 ≤ (σ 1 1) then ((f_Tape_beginText_1 a1 σ).bind fun q4 => ((f_Law_readFrom_57_1  q4.2).bind fun q5 => (if q5.1 < 0 then (f_X_law_0_p63 q5.1 q5.2) else ((f_Law_copyFrom_16_57  q5.2).bind fun q8 => (f_X_law_0_p63 q5.1 q8.2))))) else (some ((-1), σ))))
theorem ok_X_law_0_p63 {l : Launch} {rv : Int} {rσ : pS} {G : Nat → pL → List pV → pS → Prop} (H : px_R l 88 14 rv rσ G) : ∀ (a2 : Int) (σ : pS), f_X_law_0_p63 a2 σ = some (rv, rσ) → G 63 [some (.inr 0), none, some (.inl a2)] [] σ := by
  intro a2 σ h
  unfold f_X_law_0_p63 at h
  refine H [((2, 0, 0, 0, []), 1), ((17, 0, 1, 0, []), 3), ((23, 39, 0, 0, [(0, 1)]), 3), ((1, 2, 0, 0, []), 1), ((27, 0, 0, 0, []), 1)] 63 _ _ _ (by decide +kernel) ?_
  obtain ⟨⟨vq7, σq7⟩, hq7, h⟩ := px_bind h
  dsimp only at h
  refine Exists.intro 0 (Exists.intro vq7 (Exists.intro σq7 (And.intro (Nat.le_of_ble_eq_true rfl) (And.intro (ok_Tape_clear_1 hq7) ?_))))
  exact Prod.mk.inj (Option.some.inj h)
theorem ok_X_law_0_w {l : Launch} {rv : Int} {rσ : pS} {G : Nat → pL → List pV → pS → Prop} (H : px_R l 88 14 rv rσ G) : ∀ (a1 : Int) (σ : pS), f_X_law_0 a1 σ = some (rv, rσ) → G 0 [some (.inr 0), some (.inl a1), none] [] σ := by
  intro a1 σ h
  unfold f_X_law_0 at h
  refine H [((1, 1, 0, 0, []), 1), ((0, 0, 0, 1, []), 1), ((13, 2, 23, 0, []), 3), ((1, 1, 0, 0, []), 1), ((0, 0, 0, 240, []), 3), ((13, 4, 23, 0, []), 3), ((1, 1, 0, 0, []), 1), ((2, 0, 0, 0, []), 1), ((17, 0, 1, 0, []), 3), ((16, 1, 1, 0, []), 3), ((13, 5, 25, 0, []), 3), ((0, 0, 0, (-1), []), 1), ((27, 0, 0, 0, []), 1)] 0 _ _ _ (by decide +kernel) ?_
  rcases px_ite h with ⟨c1, h⟩ | ⟨c1, h⟩
  · refine And.intro (fun _ => ?_) (fun hn => absurd c1 hn)
    refine H [((0, 0, 0, (-1), []), 1), ((27, 0, 0, 0, []), 1)] 23 _ _ _ (by decide +kernel) ?_
    exact Prod.mk.inj (Option.some.inj h)
  · refine And.intro (fun hp => absurd hp c1) (fun _ => ?_)
    rcases px_ite h with ⟨c2, h⟩ | ⟨c2, h⟩
    · refine And.intro (fun _ => ?_) (fun hn => absurd c2 hn)
      refine H [((0, 0, 0, (-1), []), 1), ((27, 0, 0, 0, []), 1)] 23 _ _ _ (by decide +kernel) ?_
      exact Prod.mk.inj (Option.some.inj h)
    · refine And.intro (fun hp => absurd hp c2) (fun _ => ?_)
      rcases px_ite h with ⟨c3, h⟩ | ⟨c3, h⟩
      · refine And.intro (fun _ => ?_) (fun hn => absurd c3 hn)
        refine H [((2, 0, 0, 0, []), 1), ((17, 0, 1, 0, []), 3), ((1, 1, 0, 0, []), 1), ((23, 15, 1, 0, [(0, 1)]), 3), ((2, 0, 0, 0, []), 1), ((17, 0, 57, 0, []), 3), ((2, 0, 0, 0, []), 1), ((17, 0, 1, 0, []), 3), ((23, 17, 1, 1, [(0, 57)]), 3), ((3, 2, 0, 0, []), 1), ((1, 2, 0, 0, []), 1), ((14, 2, 63, 0, []), 3), ((2, 0, 0, 0, []), 1), ((17, 0, 3, 0, []), 3), ((17, 3, 16, 0, []), 3), ((2, 0, 0, 0, []), 1), ((17, 0, 57, 0, []), 3), ((23, 38, 1, 0, [(0, 16)]), 3), ((29, 1, 0, 0, []), 0)] 25 _ _ _ (by decide +kernel) ?_
        obtain ⟨⟨vq4, σq4⟩, hq4, h⟩ := px_bind h
        dsimp only at h
        refine Exists.intro 1 (Exists.intro vq4 (Exists.intro σq4 (And.intro (Nat.le_of_ble_eq_true rfl) (And.intro (ok_Tape_beginText_1 hq4) ?_))))
        obtain ⟨⟨vq5, σq5⟩, hq5, h⟩ := px_bind h
        dsimp only at h
        refine Exists.intro 87 (Exists.intro vq5 (Exists.intro σq5 (And.intro (Nat.le_of_ble_eq_true rfl) (And.intro (ok_Law_readFrom_57_1 hq5) ?_))))
        rcases px_ite h with ⟨c6, h⟩ | ⟨c6, h⟩
        · refine And.intro (fun _ => ?_) (fun hn => absurd c6 hn)
          refine H [((29, 1, 0, 0, []), 0)] 63 _ _ _ (by decide +kernel) ?_
          exact ok_X_law_0_p63 H _ _ h
        · refine And.intro (fun hp => absurd hp c6) (fun _ => ?_)
          obtain ⟨⟨vq8, σq8⟩, hq8, h⟩ := px_bind h
          dsimp only at h
          refine Exists.intro 1 (Exists.intro vq8 (Exists.intro σq8 (And.intro (Nat.le_of_ble_eq_true rfl) (And.intro (ok_Law_copyFrom_16_57 hq8) ?_))))
          exact ok_X_law_0_p63 H _ _ h
      · refine And.intro (fun hp => absurd hp c3) (fun _ => ?_)
        exact Prod.mk.inj (Option.some.inj h)
theorem ok_X_law_0 {l : Launch} {a1 : Int} {σ : pS} {v : Int} {σ1 : pS} (h : f_X_law_0 a1 σ = some (v, σ1)) : Con l 88 14 [.inr 0, .inl a1] σ v σ1 := Con_mk 2 3 rfl (by decide +kernel) (fun _ H => ok_X_law_0_w H _ _ h)
def f_M_opens_84 (a1 : Int) (σ : pS) : Option (Int × pS) := if (σ 84 23) = 6 then ((f_M_wrongAt_84 5 (σ 84 19) σ).bind fun q3 => (if 0 ≤ q3.1 ∧ q3.1 ≤ 1 then (some (q3.1, q3.2)) else none)) else (if 0 ≤ (σ 84 25) ∧ (σ 84 25) < 260 then (some (1, pU (pU (pU (pU σ 84 23 (pw ((σ 84 23) + 1))) 98 ((σ 84 25).toNat) (pw (1048576 * a1))) 84 25 (pw ((σ 84 25) + 1))) 84 19 (pw ((σ 84 19) + 1)))) else none)
theorem ok_M_opens_84_w {l : Launch} {rv : Int} {rσ : pS} {G : Nat → pL → List pV → pS → Prop} (H : px_R l 1 148 rv rσ G) : ∀ (a1 : Int) (σ : pS), f_M_opens_84 a1 σ = some (rv, rσ) → G 0 [some (.inr 84), some (.inl a1)] [] σ := by
  intro a1 σ h
  unfold f_M_opens_84 at h
  refine H [((2, 0, 0, 0, []), 1), ((16, 84, 23, 0, []), 3), ((0, 0, 0, 6, []), 2), ((13, 1, 19, 0, []), 3), ((2, 0, 0, 0, []), 1), ((0, 0, 0, 5, []), 1), ((2, 0, 0, 0, []), 1), ((16, 84, 19, 0, []), 3), ((23, 145, 2, 1, [(0, 84)]), 3), ((27, 1, 0, 0, []), 1)] 0 _ _ _ (by decide +kernel) ?_
  rcases px_ite h with ⟨c1, h⟩ | ⟨c1, h⟩
  · refine And.intro (fun hp => absurd c1 hp) (fun _ => ?_)
    obtain ⟨⟨vq3, σq3⟩, hq3, h⟩ := px_bind h
    dsimp only at h
    refine Exists.intro 0 (Exists.intro vq3 (Exists.intro σq3 (And.intro (Nat.le_of_ble_eq_true rfl) (And.intro (ok_M_wrongAt_84 hq3) ?_))))
    obtain ⟨g4, h⟩ := px_gd h
    refine And.intro g4 ?_
    exact Prod.mk.inj (Option.some.inj h)
  · refine And.intro (fun _ => ?_) (fun hn => absurd c1 hn)
    refine H [((2, 0, 0, 0, []), 1), ((2, 0, 0, 0, []), 1), ((16, 84, 23, 0, []), 3), ((0, 0, 0, 1, []), 1), ((6, 0, 0, 0, []), 1), ((18, 84, 23, 0, []), 3), ((2, 0, 0, 0, []), 1), ((17, 84, 98, 0, []), 3), ((2, 0, 0, 0, []), 1), ((16, 84, 25, 0, []), 3), ((0, 0, 0, 1048576, []), 2), ((1, 1, 0, 0, []), 1), ((6, 2, 0, 0, []), 1), ((20, 98, 260, 0, []), 1), ((2, 0, 0, 0, []), 1), ((2, 0, 0, 0, []), 1), ((16, 84, 25, 0, []), 3), ((0, 0, 0, 1, []), 1), ((6, 0, 0, 0, []), 1), ((18, 84, 25, 0, []), 3), ((2, 0, 0, 0, []), 1), ((2, 0, 0, 0, []), 1), ((16, 84, 19, 0, []), 3), ((0, 0, 0, 1, []), 1), ((6, 0, 0, 0, []), 1), ((18, 84, 19, 0, []), 3), ((0, 0, 0, 1, []), 1), ((27, 1, 0, 0, []), 1)] 19 _ _ _ (by decide +kernel) ?_
    obtain ⟨g2, h⟩ := px_gd h
    refine And.intro g2 ?_
    refine And.intro (show (0 : Int) ≤ 1 ∧ (1 : Int) ≤ 1 from by decide) ?_
    exact Prod.mk.inj (Option.some.inj h)
theorem ok_M_opens_84 {l : Launch} {a1 : Int} {σ : pS} {v : Int} {σ1 : pS} (h : f_M_opens_84 a1 σ = some (v, σ1)) : Con l 1 148 [.inr 84, .inl a1] σ v σ1 := Con_mk 2 2 rfl (by decide +kernel) (fun _ H => ok_M_opens_84_w H _ _ h)
def f_M_factOf (a0 : Int) (σ : pS) : Option (Int × pS) := if a0 = 99 then (some (2, σ)) else (if a0 = 100 then (some ((-1), σ)) else (if a0 = 101 then (some ((-1), σ)) else (if a0 = 102 then (some ((-1), σ)) else (if a0 = 103 then (some ((-1), σ)) else (if a0 = 104 then (some ((-1), σ)) else (if a0 = 105 then (some (0, σ)) else (if a0 = 106 then (some ((-1), σ)) else (if a0 = 107 then (some (1, σ)) else (if a0 = 108 then (some ((-1), σ)) else (if a0 = 109 then (some ((-1), σ)) else (if a0 = 110 then (some (4, σ)) else (if a0 = 111 then (some ((-1), σ)) else (if a0 = 112 then (some ((-1), σ)) else (if a0 = 113 then (some ((-1), σ)) else (if a0 = 114 then (some (5, σ)) else (if a0 = 115 then (some (3, σ)) else (if a0 = 116 then (some ((-1), σ)) else (if a0 = 117 then (some ((-1), σ)) else (if a0 = 118 then (some ((-1), σ)) else (if a0 = 119 then (some (6, σ)) else (some ((-1), σ))))))))))))))))))))))
theorem ok_M_factOf_w {l : Launch} {rv : Int} {rσ : pS} {G : Nat → pL → List pV → pS → Prop} (H : px_R l 0 152 rv rσ G) : ∀ (a0 : Int) (σ : pS), f_M_factOf a0 σ = some (rv, rσ) → G 0 [some (.inl a0)] [] σ := by
  intro a0 σ h
  unfold f_M_factOf at h
  refine H [((1, 0, 0, 0, []), 1), ((15, 0, 115, 0, [(99, 104), (100, 115), (101, 115), (102, 115), (103, 115), (104, 115), (105, 100), (106, 115), (107, 102), (108, 115), (109, 115), (110, 108), (111, 115), (112, 115), (113, 115), (114, 110), (115, 106), (116, 115), (117, 115), (118, 115), (119, 112)]), 99)] 0 _ _ _ (by decide +kernel) ?_
  rcases px_ite h with ⟨c1, h⟩ | ⟨c1, h⟩
  · refine And.intro (fun _ => ?_) (fun hn => absurd c1 hn)
    refine H [((0, 0, 0, 2, []), 1), ((27, 0, 0, 0, []), 1)] 104 _ _ _ (by decide +kernel) ?_
    exact Prod.mk.inj (Option.some.inj h)
  · refine And.intro (fun hp => absurd hp c1) (fun _ => ?_)
    rcases px_ite h with ⟨c2, h⟩ | ⟨c2, h⟩
    · refine And.intro (fun _ => ?_) (fun hn => absurd c2 hn)
      refine H [((0, 0, 0, (-1), []), 1), ((27, 0, 0, 0, []), 1)] 115 _ _ _ (by decide +kernel) ?_
      exact Prod.mk.inj (Option.some.inj h)
    · refine And.intro (fun hp => absurd hp c2) (fun _ => ?_)
      rcases px_ite h with ⟨c3, h⟩ | ⟨c3, h⟩
      · refine And.intro (fun _ => ?_) (fun hn => absurd c3 hn)
        refine H [((0, 0, 0, (-1), []), 1), ((27, 0, 0, 0, []), 1)] 115 _ _ _ (by decide +kernel) ?_
        exact Prod.mk.inj (Option.some.inj h)
      · refine And.intro (fun hp => absurd hp c3) (fun _ => ?_)
        rcases px_ite h with ⟨c4, h⟩ | ⟨c4, h⟩
        · refine And.intro (fun _ => ?_) (fun hn => absurd c4 hn)
          refine H [((0, 0, 0, (-1), []), 1), ((27, 0, 0, 0, []), 1)] 115 _ _ _ (by decide +kernel) ?_
          exact Prod.mk.inj (Option.some.inj h)
        · refine And.intro (fun hp => absurd hp c4) (fun _ => ?_)
          rcases px_ite h with ⟨c5, h⟩ | ⟨c5, h⟩
          · refine And.intro (fun _ => ?_) (fun hn => absurd c5 hn)
            refine H [((0, 0, 0, (-1), []), 1), ((27, 0, 0, 0, []), 1)] 115 _ _ _ (by decide +kernel) ?_
            exact Prod.mk.inj (Option.some.inj h)
          · refine And.intro (fun hp => absurd hp c5) (fun _ => ?_)
            rcases px_ite h with ⟨c6, h⟩ | ⟨c6, h⟩
            · refine And.intro (fun _ => ?_) (fun hn => absurd c6 hn)
              refine H [((0, 0, 0, (-1), []), 1), ((27, 0, 0, 0, []), 1)] 115 _ _ _ (by decide +kernel) ?_
              exact Prod.mk.inj (Option.some.inj h)
            · refine And.intro (fun hp => absurd hp c6) (fun _ => ?_)
              rcases px_ite h with ⟨c7, h⟩ | ⟨c7, h⟩
              · refine And.intro (fun _ => ?_) (fun hn => absurd c7 hn)
                refine H [((0, 0, 0, 0, []), 1), ((27, 0, 0, 0, []), 1)] 100 _ _ _ (by decide +kernel) ?_
                exact Prod.mk.inj (Option.some.inj h)
              · refine And.intro (fun hp => absurd hp c7) (fun _ => ?_)
                rcases px_ite h with ⟨c8, h⟩ | ⟨c8, h⟩
                · refine And.intro (fun _ => ?_) (fun hn => absurd c8 hn)
                  refine H [((0, 0, 0, (-1), []), 1), ((27, 0, 0, 0, []), 1)] 115 _ _ _ (by decide +kernel) ?_
                  exact Prod.mk.inj (Option.some.inj h)
                · refine And.intro (fun hp => absurd hp c8) (fun _ => ?_)
                  rcases px_ite h with ⟨c9, h⟩ | ⟨c9, h⟩
                  · refine And.intro (fun _ => ?_) (fun hn => absurd c9 hn)
                    refine H [((0, 0, 0, 1, []), 1), ((27, 0, 0, 0, []), 1)] 102 _ _ _ (by decide +kernel) ?_
                    exact Prod.mk.inj (Option.some.inj h)
                  · refine And.intro (fun hp => absurd hp c9) (fun _ => ?_)
                    rcases px_ite h with ⟨c10, h⟩ | ⟨c10, h⟩
                    · refine And.intro (fun _ => ?_) (fun hn => absurd c10 hn)
                      refine H [((0, 0, 0, (-1), []), 1), ((27, 0, 0, 0, []), 1)] 115 _ _ _ (by decide +kernel) ?_
                      exact Prod.mk.inj (Option.some.inj h)
                    · refine And.intro (fun hp => absurd hp c10) (fun _ => ?_)
                      rcases px_ite h with ⟨c11, h⟩ | ⟨c11, h⟩
                      · refine And.intro (fun _ => ?_) (fun hn => absurd c11 hn)
                        refine H [((0, 0, 0, (-1), []), 1), ((27, 0, 0, 0, []), 1)] 115 _ _ _ (by decide +kernel) ?_
                        exact Prod.mk.inj (Option.some.inj h)
                      · refine And.intro (fun hp => absurd hp c11) (fun _ => ?_)
                        rcases px_ite h with ⟨c12, h⟩ | ⟨c12, h⟩
                        · refine And.intro (fun _ => ?_) (fun hn => absurd c12 hn)
                          refine H [((0, 0, 0, 4, []), 1), ((27, 0, 0, 0, []), 1)] 108 _ _ _ (by decide +kernel) ?_
                          exact Prod.mk.inj (Option.some.inj h)
                        · refine And.intro (fun hp => absurd hp c12) (fun _ => ?_)
                          rcases px_ite h with ⟨c13, h⟩ | ⟨c13, h⟩
                          · refine And.intro (fun _ => ?_) (fun hn => absurd c13 hn)
                            refine H [((0, 0, 0, (-1), []), 1), ((27, 0, 0, 0, []), 1)] 115 _ _ _ (by decide +kernel) ?_
                            exact Prod.mk.inj (Option.some.inj h)
                          · refine And.intro (fun hp => absurd hp c13) (fun _ => ?_)
                            rcases px_ite h with ⟨c14, h⟩ | ⟨c14, h⟩
                            · refine And.intro (fun _ => ?_) (fun hn => absurd c14 hn)
                              refine H [((0, 0, 0, (-1), []), 1), ((27, 0, 0, 0, []), 1)] 115 _ _ _ (by decide +kernel) ?_
                              exact Prod.mk.inj (Option.some.inj h)
                            · refine And.intro (fun hp => absurd hp c14) (fun _ => ?_)
                              rcases px_ite h with ⟨c15, h⟩ | ⟨c15, h⟩
                              · refine And.intro (fun _ => ?_) (fun hn => absurd c15 hn)
                                refine H [((0, 0, 0, (-1), []), 1), ((27, 0, 0, 0, []), 1)] 115 _ _ _ (by decide +kernel) ?_
                                exact Prod.mk.inj (Option.some.inj h)
                              · refine And.intro (fun hp => absurd hp c15) (fun _ => ?_)
                                rcases px_ite h with ⟨c16, h⟩ | ⟨c16, h⟩
                                · refine And.intro (fun _ => ?_) (fun hn => absurd c16 hn)
                                  refine H [((0, 0, 0, 5, []), 1), ((27, 0, 0, 0, []), 1)] 110 _ _ _ (by decide +kernel) ?_
                                  exact Prod.mk.inj (Option.some.inj h)
                                · refine And.intro (fun hp => absurd hp c16) (fun _ => ?_)
                                  rcases px_ite h with ⟨c17, h⟩ | ⟨c17, h⟩
                                  · refine And.intro (fun _ => ?_) (fun hn => absurd c17 hn)
                                    refine H [((0, 0, 0, 3, []), 1), ((27, 0, 0, 0, []), 1)] 106 _ _ _ (by decide +kernel) ?_
                                    exact Prod.mk.inj (Option.some.inj h)
                                  · refine And.intro (fun hp => absurd hp c17) (fun _ => ?_)
                                    rcases px_ite h with ⟨c18, h⟩ | ⟨c18, h⟩
                                    · refine And.intro (fun _ => ?_) (fun hn => absurd c18 hn)
                                      refine H [((0, 0, 0, (-1), []), 1), ((27, 0, 0, 0, []), 1)] 115 _ _ _ (by decide +kernel) ?_
                                      exact Prod.mk.inj (Option.some.inj h)
                                    · refine And.intro (fun hp => absurd hp c18) (fun _ => ?_)
                                      rcases px_ite h with ⟨c19, h⟩ | ⟨c19, h⟩
                                      · refine And.intro (fun _ => ?_) (fun hn => absurd c19 hn)
                                        refine H [((0, 0, 0, (-1), []), 1), ((27, 0, 0, 0, []), 1)] 115 _ _ _ (by decide +kernel) ?_
                                        exact Prod.mk.inj (Option.some.inj h)
                                      · refine And.intro (fun hp => absurd hp c19) (fun _ => ?_)
                                        rcases px_ite h with ⟨c20, h⟩ | ⟨c20, h⟩
                                        · refine And.intro (fun _ => ?_) (fun hn => absurd c20 hn)
                                          refine H [((0, 0, 0, (-1), []), 1), ((27, 0, 0, 0, []), 1)] 115 _ _ _ (by decide +kernel) ?_
                                          exact Prod.mk.inj (Option.some.inj h)
                                        · refine And.intro (fun hp => absurd hp c20) (fun _ => ?_)
                                          rcases px_ite h with ⟨c21, h⟩ | ⟨c21, h⟩
                                          · refine And.intro (fun _ => ?_) (fun hn => absurd c21 hn)
                                            refine H [((0, 0, 0, 6, []), 2), ((27, 0, 0, 0, []), 1)] 112 _ _ _ (by decide +kernel) ?_
                                            exact Prod.mk.inj (Option.some.inj h)
                                          · refine And.intro (fun hp => absurd hp c21) (fun _ => ?_)
                                            refine H [((0, 0, 0, (-1), []), 1), ((27, 0, 0, 0, []), 1)] 115 _ _ _ (by decide +kernel) ?_
                                            exact Prod.mk.inj (Option.some.inj h)
theorem ok_M_factOf {l : Launch} {a0 : Int} {σ : pS} {v : Int} {σ1 : pS} (h : f_M_factOf a0 σ = some (v, σ1)) : Con l 0 152 [.inl a0] σ v σ1 := Con_mk 1 1 rfl (by decide +kernel) (fun _ H => ok_M_factOf_w H _ _ h)
def f_M_notes_84 (a1 a2 : Int) (σ : pS) : Option (Int × pS) := if 0 ≤ (σ 84 24) ∧ (σ 84 24) < 260 then (some (0, pU (pU σ 97 ((σ 84 24).toNat) (pw ((pw (1048576 * a1)) + a2))) 84 24 (pw ((σ 84 24) + 1)))) else none
theorem ok_M_notes_84_w {l : Launch} {rv : Int} {rσ : pS} {G : Nat → pL → List pV → pS → Prop} (H : px_R l 0 151 rv rσ G) : ∀ (a1 a2 : Int) (σ : pS), f_M_notes_84 a1 a2 σ = some (rv, rσ) → G 0 [some (.inr 84), some (.inl a1), some (.inl a2)] [] σ := by
  intro a1 a2 σ h
  unfold f_M_notes_84 at h
  refine H [((2, 0, 0, 0, []), 1), ((17, 84, 97, 0, []), 3), ((2, 0, 0, 0, []), 1), ((16, 84, 24, 0, []), 3), ((0, 0, 0, 1048576, []), 2), ((1, 1, 0, 0, []), 1), ((6, 2, 0, 0, []), 1), ((1, 2, 0, 0, []), 1), ((6, 0, 0, 0, []), 1), ((20, 97, 260, 0, []), 1), ((2, 0, 0, 0, []), 1), ((2, 0, 0, 0, []), 1), ((16, 84, 24, 0, []), 3), ((0, 0, 0, 1, []), 1), ((6, 0, 0, 0, []), 1), ((18, 84, 24, 0, []), 3), ((28, 0, 0, 0, []), 1)] 0 _ _ _ (by decide +kernel) ?_
  obtain ⟨g1, h⟩ := px_gd h
  refine And.intro g1 ?_
  exact (Prod.mk.inj (Option.some.inj h)).2
theorem ok_M_notes_84 {l : Launch} {a1 a2 : Int} {σ : pS} {v : Int} {σ1 : pS} (h : f_M_notes_84 a1 a2 σ = some (v, σ1)) : Con l 0 151 [.inr 84, .inl a1, .inl a2] σ v σ1 := Con_mk 3 3 rfl (by decide +kernel) (fun _ H => ok_M_notes_84_w H _ _ _ h)
def f_M_readsNumber_84_p10 : Nat → Int → pS → Option (Int × pS)
  | 0, _, _ => none
  | n + 1, a1, σ => (f_M_isDigit_84  σ).bind fun q1 => (if q1.1 = 0 then (some (1, q1.2)) else (if (q1.2 84 19) = (pw (a1 + 5)) then ((f_M_wrongAt_84 2 (q1.2 84 19) q1.2).bind fun q5 => (if 0 ≤ q5.1 ∧ q5.1 ≤ 1 then (some (q5.1, q5.2)) else none)) else ((f_M_here_84  q1.2).bind fun q4 => (f_M_readsNumber_84_p10 n a1 (pU (pU q4.2 84 22 (pw ((pw ((pw (10 * (q1.2 84 22))) + q4.1)) - 48))) 84 19 (pw ((q4.2 84 19) + 1)))))))
def f_M_readsNumber_84 (σ : pS) : Option (Int × pS) := f_M_readsNumber_84_p10 4096 (σ 84 19) (pU σ 84 22 0)
theorem ok_M_readsNumber_84_p10 {l : Launch} {rv : Int} {rσ : pS} {G : Nat → pL → List pV → pS → Prop} (H : px_R l 2 150 rv rσ G) : ∀ (n : Nat) (a1 : Int) (σ : pS), f_M_readsNumber_84_p10 n a1 σ = some (rv, rσ) → G 10 [some (.inr 84), some (.inl a1)] [] σ := by
  intro n
  induction n with
  | zero =>
    intro a1 σ h
    unfold f_M_readsNumber_84_p10 at h
    cases h
  | succ n ih =>
    intro a1 σ h
    unfold f_M_readsNumber_84_p10 at h
    refine H [((2, 0, 0, 0, []), 1), ((23, 149, 0, 1, [(0, 84)]), 3), ((14, 0, 69, 0, []), 3), ((2, 0, 0, 0, []), 1), ((16, 84, 19, 0, []), 3), ((1, 1, 0, 0, []), 1), ((0, 0, 0, 5, []), 1), ((6, 0, 0, 0, []), 1), ((13, 1, 37, 0, []), 3), ((2, 0, 0, 0, []), 1), ((0, 0, 0, 2, []), 1), ((2, 0, 0, 0, []), 1), ((16, 84, 19, 0, []), 3), ((23, 145, 2, 1, [(0, 84)]), 3), ((27, 1, 0, 0, []), 1)] 10 _ _ _ (by decide +kernel) ?_
    obtain ⟨⟨vq1, σq1⟩, hq1, h⟩ := px_bind h
    dsimp only at h
    refine Exists.intro 1 (Exists.intro vq1 (Exists.intro σq1 (And.intro (Nat.le_of_ble_eq_true rfl) (And.intro (ok_M_isDigit_84 hq1) ?_))))
    rcases px_ite h with ⟨c2, h⟩ | ⟨c2, h⟩
    · refine And.intro (fun _ => ?_) (fun hn => absurd c2 hn)
      refine H [((0, 0, 0, 1, []), 1), ((27, 1, 0, 0, []), 1)] 69 _ _ _ (by decide +kernel) ?_
      refine And.intro (show (0 : Int) ≤ 1 ∧ (1 : Int) ≤ 1 from by decide) ?_
      exact Prod.mk.inj (Option.some.inj h)
    · refine And.intro (fun hp => absurd hp c2) (fun _ => ?_)
      rcases px_ite h with ⟨c3, h⟩ | ⟨c3, h⟩
      · refine And.intro (fun hp => absurd c3 hp) (fun _ => ?_)
        obtain ⟨⟨vq5, σq5⟩, hq5, h⟩ := px_bind h
        dsimp only at h
        refine Exists.intro 0 (Exists.intro vq5 (Exists.intro σq5 (And.intro (Nat.le_of_ble_eq_true rfl) (And.intro (ok_M_wrongAt_84 hq5) ?_))))
        obtain ⟨g6, h⟩ := px_gd h
        refine And.intro g6 ?_
        exact Prod.mk.inj (Option.some.inj h)
      · refine And.intro (fun _ => ?_) (fun hn => absurd c3 hn)
        refine H [((2, 0, 0, 0, []), 1), ((0, 0, 0, 10, []), 2), ((2, 0, 0, 0, []), 1), ((16, 84, 22, 0, []), 3), ((6, 2, 0, 0, []), 1), ((2, 0, 0, 0, []), 1), ((23, 144, 0, 1, [(0, 84)]), 3), ((6, 0, 0, 0, []), 1), ((0, 0, 0, 48, []), 2), ((6, 1, 0, 0, []), 1), ((18, 84, 22, 0, []), 3), ((2, 0, 0, 0, []), 1), ((2, 0, 0, 0, []), 1), ((16, 84, 19, 0, []), 3), ((0, 0, 0, 1, []), 1), ((6, 0, 0, 0, []), 1), ((18, 84, 19, 0, []), 3), ((12, 0, 10, 0, []), 3)] 37 _ _ _ (by decide +kernel) ?_
        obtain ⟨⟨vq4, σq4⟩, hq4, h⟩ := px_bind h
        dsimp only at h
        refine Exists.intro 0 (Exists.intro vq4 (Exists.intro σq4 (And.intro (Nat.le_of_ble_eq_true rfl) (And.intro (ok_M_here_84 hq4) ?_))))
        exact ih _ _ h
theorem ok_M_readsNumber_84_w {l : Launch} {rv : Int} {rσ : pS} {G : Nat → pL → List pV → pS → Prop} (H : px_R l 2 150 rv rσ G) : ∀ (σ : pS), f_M_readsNumber_84  σ = some (rv, rσ) → G 0 [some (.inr 84), none] [] σ := by
  intro  σ h
  unfold f_M_readsNumber_84 at h
  refine H [((2, 0, 0, 0, []), 1), ((16, 84, 19, 0, []), 3), ((3, 1, 0, 0, []), 1), ((2, 0, 0, 0, []), 1), ((0, 0, 0, 0, []), 1), ((18, 84, 22, 0, []), 3)] 0 _ _ _ (by decide +kernel) ?_
  exact ok_M_readsNumber_84_p10 H _ _ _ h
theorem ok_M_readsNumber_84 {l : Launch} {σ : pS} {v : Int} {σ1 : pS} (h : f_M_readsNumber_84  σ = some (v, σ1)) : Con l 2 150 [.inr 84] σ v σ1 := Con_mk 1 2 rfl (by decide +kernel) (fun _ H => ok_M_readsNumber_84_w H  _ h)
def f_M_readsFactor_84_p0 : Nat → pS → Option (Int × pS)
  | 0, _ => none
  | n + 1, σ => (f_M_here_84  σ).bind fun q1 => (if q1.1 = 91 then ((f_M_opens_84 14 q1.2).bind fun q14 => (if q14.1 = 0 then (some (0, q14.2)) else (f_M_readsFactor_84_p0 n  q14.2))) else ((f_M_isDigit_84  q1.2).bind fun q3 => (if q3.1 = 0 then ((f_M_here_84  q3.2).bind fun q5 => ((f_M_factOf q5.1 q5.2).bind fun q6 => (if q6.1 = (-1) then ((f_M_wrongAt_84 1 (q6.2 84 19) q6.2).bind fun q9 => (if 0 ≤ q9.1 ∧ q9.1 ≤ 1 then (some (q9.1, q9.2)) else none)) else ((f_M_notes_84 1 q6.1 q6.2).bind fun q8 => (some (1, pU q8.2 84 19 (pw ((q8.2 84 19) + 1)))))))) else ((f_M_readsNumber_84  q3.2).bind fun q11 => (if q11.1 = 0 then (some (0, q11.2)) else ((f_M_notes_84 0 (q11.2 84 22) q11.2).bind fun q13 => (some (1, q13.2))))))))
def f_M_readsFactor_84 (σ : pS) : Option (Int × pS) := f_M_readsFactor_84_p0 4096  σ
theorem ok_M_readsFactor_84_p0 {l : Launch} {rv : Int} {rσ : pS} {G : Nat → pL → List pV → pS → Prop} (H : px_R l 3 147 rv rσ G) : ∀ (n : Nat) (σ : pS), f_M_readsFactor_84_p0 n  σ = some (rv, rσ) → G 0 [some (.inr 84), none] [] σ := by
  intro n
  induction n with
  | zero =>
    intro  σ h
    unfold f_M_readsFactor_84_p0 at h
    cases h
  | succ n ih =>
    intro  σ h
    unfold f_M_readsFactor_84_p0 at h
    refine H [((2, 0, 0, 0, []), 1), ((23, 144, 0, 1, [(0, 84)]), 3), ((0, 0, 0, 91, []), 2), ((13, 1, 20, 0, []), 3), ((2, 0, 0, 0, []), 1), ((0, 0, 0, 14, []), 2), ((23, 148, 1, 1, [(0, 84)]), 3), ((14, 1, 0, 0, []), 3), ((0, 0, 0, 0, []), 1), ((27, 1, 0, 0, []), 1)] 0 _ _ _ (by decide +kernel) ?_
    obtain ⟨⟨vq1, σq1⟩, hq1, h⟩ := px_bind h
    dsimp only at h
    refine Exists.intro 0 (Exists.intro vq1 (Exists.intro σq1 (And.intro (Nat.le_of_ble_eq_true rfl) (And.intro (ok_M_here_84 hq1) ?_))))
    rcases px_ite h with ⟨c2, h⟩ | ⟨c2, h⟩
    · refine And.intro (fun hp => absurd c2 hp) (fun _ => ?_)
      obtain ⟨⟨vq14, σq14⟩, hq14, h⟩ := px_bind h
      dsimp only at h
      refine Exists.intro 1 (Exists.intro vq14 (Exists.intro σq14 (And.intro (Nat.le_of_ble_eq_true rfl) (And.intro (ok_M_opens_84 hq14) ?_))))
      rcases px_ite h with ⟨c15, h⟩ | ⟨c15, h⟩
      · refine And.intro (fun hp => absurd c15 hp) (fun _ => ?_)
        refine And.intro (show (0 : Int) ≤ 0 ∧ (0 : Int) ≤ 1 from by decide) ?_
        exact Prod.mk.inj (Option.some.inj h)
      · refine And.intro (fun _ => ?_) (fun hn => absurd c15 hn)
        exact ih  _ h
    · refine And.intro (fun _ => ?_) (fun hn => absurd c2 hn)
      refine H [((2, 0, 0, 0, []), 1), ((23, 149, 0, 1, [(0, 84)]), 3), ((14, 0, 47, 0, []), 3), ((2, 0, 0, 0, []), 1), ((23, 150, 0, 1, [(0, 84)]), 3), ((14, 1, 36, 0, []), 3), ((0, 0, 0, 0, []), 1), ((27, 1, 0, 0, []), 1)] 20 _ _ _ (by decide +kernel) ?_
      obtain ⟨⟨vq3, σq3⟩, hq3, h⟩ := px_bind h
      dsimp only at h
      refine Exists.intro 1 (Exists.intro vq3 (Exists.intro σq3 (And.intro (Nat.le_of_ble_eq_true rfl) (And.intro (ok_M_isDigit_84 hq3) ?_))))
      rcases px_ite h with ⟨c4, h⟩ | ⟨c4, h⟩
      · refine And.intro (fun _ => ?_) (fun hn => absurd c4 hn)
        refine H [((2, 0, 0, 0, []), 1), ((23, 144, 0, 1, [(0, 84)]), 3), ((24, 152, 1, 1, []), 3), ((3, 1, 0, 0, []), 1), ((1, 1, 0, 0, []), 1), ((0, 0, 0, (-1), []), 1), ((13, 1, 70, 0, []), 3), ((2, 0, 0, 0, []), 1), ((0, 0, 0, 1, []), 1), ((2, 0, 0, 0, []), 1), ((16, 84, 19, 0, []), 3), ((23, 145, 2, 1, [(0, 84)]), 3), ((27, 1, 0, 0, []), 1)] 47 _ _ _ (by decide +kernel) ?_
        obtain ⟨⟨vq5, σq5⟩, hq5, h⟩ := px_bind h
        dsimp only at h
        refine Exists.intro 0 (Exists.intro vq5 (Exists.intro σq5 (And.intro (Nat.le_of_ble_eq_true rfl) (And.intro (ok_M_here_84 hq5) ?_))))
        obtain ⟨⟨vq6, σq6⟩, hq6, h⟩ := px_bind h
        dsimp only at h
        refine Exists.intro 0 (Exists.intro vq6 (Exists.intro σq6 (And.intro (Nat.le_of_ble_eq_true rfl) (And.intro (ok_M_factOf hq6) ?_))))
        rcases px_ite h with ⟨c7, h⟩ | ⟨c7, h⟩
        · refine And.intro (fun hp => absurd c7 hp) (fun _ => ?_)
          obtain ⟨⟨vq9, σq9⟩, hq9, h⟩ := px_bind h
          dsimp only at h
          refine Exists.intro 0 (Exists.intro vq9 (Exists.intro σq9 (And.intro (Nat.le_of_ble_eq_true rfl) (And.intro (ok_M_wrongAt_84 hq9) ?_))))
          obtain ⟨g10, h⟩ := px_gd h
          refine And.intro g10 ?_
          exact Prod.mk.inj (Option.some.inj h)
        · refine And.intro (fun _ => ?_) (fun hn => absurd c7 hn)
          refine H [((2, 0, 0, 0, []), 1), ((0, 0, 0, 1, []), 1), ((1, 1, 0, 0, []), 1), ((23, 151, 2, 0, [(0, 84)]), 3), ((2, 0, 0, 0, []), 1), ((2, 0, 0, 0, []), 1), ((16, 84, 19, 0, []), 3), ((0, 0, 0, 1, []), 1), ((6, 0, 0, 0, []), 1), ((18, 84, 19, 0, []), 3), ((0, 0, 0, 1, []), 1), ((27, 1, 0, 0, []), 1)] 70 _ _ _ (by decide +kernel) ?_
          obtain ⟨⟨vq8, σq8⟩, hq8, h⟩ := px_bind h
          dsimp only at h
          refine Exists.intro 0 (Exists.intro vq8 (Exists.intro σq8 (And.intro (Nat.le_of_ble_eq_true rfl) (And.intro (ok_M_notes_84 hq8) ?_))))
          refine And.intro (show (0 : Int) ≤ 1 ∧ (1 : Int) ≤ 1 from by decide) ?_
          exact Prod.mk.inj (Option.some.inj h)
      · refine And.intro (fun hp => absurd hp c4) (fun _ => ?_)
        obtain ⟨⟨vq11, σq11⟩, hq11, h⟩ := px_bind h
        dsimp only at h
        refine Exists.intro 2 (Exists.intro vq11 (Exists.intro σq11 (And.intro (Nat.le_of_ble_eq_true rfl) (And.intro (ok_M_readsNumber_84 hq11) ?_))))
        rcases px_ite h with ⟨c12, h⟩ | ⟨c12, h⟩
        · refine And.intro (fun hp => absurd c12 hp) (fun _ => ?_)
          refine And.intro (show (0 : Int) ≤ 0 ∧ (0 : Int) ≤ 1 from by decide) ?_
          exact Prod.mk.inj (Option.some.inj h)
        · refine And.intro (fun _ => ?_) (fun hn => absurd c12 hn)
          refine H [((2, 0, 0, 0, []), 1), ((0, 0, 0, 0, []), 1), ((2, 0, 0, 0, []), 1), ((16, 84, 22, 0, []), 3), ((23, 151, 2, 0, [(0, 84)]), 3), ((0, 0, 0, 1, []), 1), ((27, 1, 0, 0, []), 1)] 36 _ _ _ (by decide +kernel) ?_
          obtain ⟨⟨vq13, σq13⟩, hq13, h⟩ := px_bind h
          dsimp only at h
          refine Exists.intro 0 (Exists.intro vq13 (Exists.intro σq13 (And.intro (Nat.le_of_ble_eq_true rfl) (And.intro (ok_M_notes_84 hq13) ?_))))
          refine And.intro (show (0 : Int) ≤ 1 ∧ (1 : Int) ≤ 1 from by decide) ?_
          exact Prod.mk.inj (Option.some.inj h)
theorem ok_M_readsFactor_84_w {l : Launch} {rv : Int} {rσ : pS} {G : Nat → pL → List pV → pS → Prop} (H : px_R l 3 147 rv rσ G) : ∀ (σ : pS), f_M_readsFactor_84  σ = some (rv, rσ) → G 0 [some (.inr 84), none] [] σ := by
  intro  σ h
  unfold f_M_readsFactor_84 at h
  refine H [] 0 _ _ _ (by decide +kernel) ?_
  exact ok_M_readsFactor_84_p0 H _  _ h
theorem ok_M_readsFactor_84 {l : Launch} {σ : pS} {v : Int} {σ1 : pS} (h : f_M_readsFactor_84  σ = some (v, σ1)) : Con l 3 147 [.inr 84] σ v σ1 := Con_mk 1 2 rfl (by decide +kernel) (fun _ H => ok_M_readsFactor_84_w H  _ h)
def f_M_sumSign (a0 : Int) (σ : pS) : Option (Int × pS) := if a0 = 43 then (some (2, σ)) else (if a0 = 45 then (some (3, σ)) else (if a0 = 42 then (some (4, σ)) else (if a0 = 47 then (some (5, σ)) else (if a0 = 37 then (some (6, σ)) else (some ((-1), σ))))))
theorem ok_M_sumSign_w {l : Launch} {rv : Int} {rσ : pS} {G : Nat → pL → List pV → pS → Prop} (H : px_R l 0 153 rv rσ G) : ∀ (a0 : Int) (σ : pS), f_M_sumSign a0 σ = some (rv, rσ) → G 0 [some (.inl a0)] [] σ := by
  intro a0 σ h
  unfold f_M_sumSign at h
  refine H [((1, 0, 0, 0, []), 1), ((0, 0, 0, 43, []), 2), ((13, 1, 10, 0, []), 3), ((0, 0, 0, 2, []), 1), ((12, 0, 52, 0, []), 3), ((27, 0, 0, 0, []), 1)] 0 _ _ _ (by decide +kernel) ?_
  rcases px_ite h with ⟨c1, h⟩ | ⟨c1, h⟩
  · refine And.intro (fun hp => absurd c1 hp) (fun _ => ?_)
    exact Prod.mk.inj (Option.some.inj h)
  · refine And.intro (fun _ => ?_) (fun hn => absurd c1 hn)
    refine H [((1, 0, 0, 0, []), 1), ((0, 0, 0, 45, []), 2), ((13, 1, 20, 0, []), 3), ((0, 0, 0, 3, []), 1), ((12, 0, 52, 0, []), 3), ((27, 0, 0, 0, []), 1)] 10 _ _ _ (by decide +kernel) ?_
    rcases px_ite h with ⟨c2, h⟩ | ⟨c2, h⟩
    · refine And.intro (fun hp => absurd c2 hp) (fun _ => ?_)
      exact Prod.mk.inj (Option.some.inj h)
    · refine And.intro (fun _ => ?_) (fun hn => absurd c2 hn)
      refine H [((1, 0, 0, 0, []), 1), ((0, 0, 0, 42, []), 2), ((13, 1, 30, 0, []), 3), ((0, 0, 0, 4, []), 1), ((12, 0, 52, 0, []), 3), ((27, 0, 0, 0, []), 1)] 20 _ _ _ (by decide +kernel) ?_
      rcases px_ite h with ⟨c3, h⟩ | ⟨c3, h⟩
      · refine And.intro (fun hp => absurd c3 hp) (fun _ => ?_)
        exact Prod.mk.inj (Option.some.inj h)
      · refine And.intro (fun _ => ?_) (fun hn => absurd c3 hn)
        refine H [((1, 0, 0, 0, []), 1), ((0, 0, 0, 47, []), 2), ((13, 1, 40, 0, []), 3), ((0, 0, 0, 5, []), 1), ((12, 0, 52, 0, []), 3), ((27, 0, 0, 0, []), 1)] 30 _ _ _ (by decide +kernel) ?_
        rcases px_ite h with ⟨c4, h⟩ | ⟨c4, h⟩
        · refine And.intro (fun hp => absurd c4 hp) (fun _ => ?_)
          exact Prod.mk.inj (Option.some.inj h)
        · refine And.intro (fun _ => ?_) (fun hn => absurd c4 hn)
          refine H [((1, 0, 0, 0, []), 1), ((0, 0, 0, 37, []), 2), ((13, 1, 51, 0, []), 3), ((0, 0, 0, 6, []), 2), ((12, 0, 52, 0, []), 3), ((27, 0, 0, 0, []), 1)] 40 _ _ _ (by decide +kernel) ?_
          rcases px_ite h with ⟨c5, h⟩ | ⟨c5, h⟩
          · refine And.intro (fun hp => absurd c5 hp) (fun _ => ?_)
            exact Prod.mk.inj (Option.some.inj h)
          · refine And.intro (fun _ => ?_) (fun hn => absurd c5 hn)
            refine H [((0, 0, 0, (-1), []), 1), ((27, 0, 0, 0, []), 1)] 51 _ _ _ (by decide +kernel) ?_
            exact Prod.mk.inj (Option.some.inj h)
theorem ok_M_sumSign {l : Launch} {a0 : Int} {σ : pS} {v : Int} {σ1 : pS} (h : f_M_sumSign a0 σ = some (v, σ1)) : Con l 0 153 [.inl a0] σ v σ1 := Con_mk 1 1 rfl (by decide +kernel) (fun _ H => ok_M_sumSign_w H _ _ h)
def f_M_hasOpenSum_84_p2 : Nat → Int → pS → Option (Int × pS)
  | 0, _, _ => none
  | n + 1, a2, σ => if (σ 84 25) ≤ a2 then (some (0, σ)) else (if 0 ≤ a2 ∧ a2 < 260 then (if (pDiv (σ 98 a2.toNat) 1048576) = 14 then (some (1, σ)) else (f_M_hasOpenSum_84_p2 n (pw (a2 + 1)) σ)) else none)
def f_M_hasOpenSum_84 (a1 : Int) (σ : pS) : Option (Int × pS) := f_M_hasOpenSum_84_p2 4096 a1 σ
theorem ok_M_hasOpenSum_84_p2 {l : Launch} {rv : Int} {rσ : pS} {G : Nat → pL → List pV → pS → Prop} (H : px_R l 0 156 rv rσ G) : ∀ (n : Nat) (a2 : Int) (σ : pS), f_M_hasOpenSum_84_p2 n a2 σ = some (rv, rσ) → G 2 [some (.inr 84), none, some (.inl a2)] [] σ := by
  intro n
  induction n with
  | zero =>
    intro a2 σ h
    unfold f_M_hasOpenSum_84_p2 at h
    cases h
  | succ n ih =>
    intro a2 σ h
    unfold f_M_hasOpenSum_84_p2 at h
    refine H [((1, 2, 0, 0, []), 1), ((2, 0, 0, 0, []), 1), ((16, 84, 25, 0, []), 3), ((13, 3, 32, 0, []), 3), ((2, 0, 0, 0, []), 1), ((17, 84, 98, 0, []), 3), ((1, 2, 0, 0, []), 1), ((19, 98, 260, 0, []), 1), ((0, 0, 0, 1048576, []), 2), ((7, 0, 0, 0, []), 1), ((0, 0, 0, 14, []), 2), ((13, 1, 26, 0, []), 3), ((0, 0, 0, 1, []), 1), ((27, 1, 0, 0, []), 1)] 2 _ _ _ (by decide +kernel) ?_
    rcases px_ite h with ⟨c1, h⟩ | ⟨c1, h⟩
    · refine And.intro (fun _ => ?_) (fun hn => absurd c1 hn)
      refine H [((0, 0, 0, 0, []), 1), ((27, 1, 0, 0, []), 1)] 32 _ _ _ (by decide +kernel) ?_
      refine And.intro (show (0 : Int) ≤ 0 ∧ (0 : Int) ≤ 1 from by decide) ?_
      exact Prod.mk.inj (Option.some.inj h)
    · refine And.intro (fun hp => absurd hp c1) (fun _ => ?_)
      obtain ⟨g2, h⟩ := px_gd h
      refine And.intro g2 ?_
      refine And.intro (show (1048576 : Int) ≠ 0 from by decide) (fun r3 hr3 => ?_)
      replace hr3 : r3 = pDiv (σ 98 a2.toNat) 1048576 := hr3.trans (px_dr_0 _ _)
      try rw [← hr3] at h
      rcases px_ite h with ⟨c4, h⟩ | ⟨c4, h⟩
      · refine And.intro (fun hp => absurd c4 hp) (fun _ => ?_)
        refine And.intro (show (0 : Int) ≤ 1 ∧ (1 : Int) ≤ 1 from by decide) ?_
        exact Prod.mk.inj (Option.some.inj h)
      · refine And.intro (fun _ => ?_) (fun hn => absurd c4 hn)
        refine H [((5, 2, 0, 1, []), 3), ((12, 0, 2, 0, []), 3)] 26 _ _ _ (by decide +kernel) ?_
        exact ih _ _ h
theorem ok_M_hasOpenSum_84_w {l : Launch} {rv : Int} {rσ : pS} {G : Nat → pL → List pV → pS → Prop} (H : px_R l 0 156 rv rσ G) : ∀ (a1 : Int) (σ : pS), f_M_hasOpenSum_84 a1 σ = some (rv, rσ) → G 0 [some (.inr 84), some (.inl a1), none] [] σ := by
  intro a1 σ h
  unfold f_M_hasOpenSum_84 at h
  refine H [((1, 1, 0, 0, []), 1), ((3, 2, 0, 0, []), 1), ((29, 1, 0, 0, []), 0)] 0 _ _ _ (by decide +kernel) ?_
  exact ok_M_hasOpenSum_84_p2 H _ _ _ h
theorem ok_M_hasOpenSum_84 {l : Launch} {a1 : Int} {σ : pS} {v : Int} {σ1 : pS} (h : f_M_hasOpenSum_84 a1 σ = some (v, σ1)) : Con l 0 156 [.inr 84, .inl a1] σ v σ1 := Con_mk 2 3 rfl (by decide +kernel) (fun _ H => ok_M_hasOpenSum_84_w H _ _ h)
def f_M_waitTop_84 (σ : pS) : Option (Int × pS) := if (σ 84 25) = 0 then (some ((-1), σ)) else (if 0 ≤ (pw ((σ 84 25) - 1)) ∧ (pw ((σ 84 25) - 1)) < 260 then (some (pDiv (σ 98 (pw ((σ 84 25) - 1)).toNat) 1048576, σ)) else none)
theorem ok_M_waitTop_84_w {l : Launch} {rv : Int} {rσ : pS} {G : Nat → pL → List pV → pS → Prop} (H : px_R l 0 155 rv rσ G) : ∀ (σ : pS), f_M_waitTop_84  σ = some (rv, rσ) → G 0 [some (.inr 84)] [] σ := by
  intro  σ h
  unfold f_M_waitTop_84 at h
  refine H [((2, 0, 0, 0, []), 1), ((16, 84, 25, 0, []), 3), ((14, 1, 11, 0, []), 3), ((0, 0, 0, (-1), []), 1), ((12, 0, 25, 0, []), 3), ((27, 0, 0, 0, []), 1)] 0 _ _ _ (by decide +kernel) ?_
  rcases px_ite h with ⟨c1, h⟩ | ⟨c1, h⟩
  · refine And.intro (fun hp => absurd c1 hp) (fun _ => ?_)
    exact Prod.mk.inj (Option.some.inj h)
  · refine And.intro (fun _ => ?_) (fun hn => absurd c1 hn)
    refine H [((2, 0, 0, 0, []), 1), ((17, 84, 98, 0, []), 3), ((2, 0, 0, 0, []), 1), ((16, 84, 25, 0, []), 3), ((0, 0, 0, 1, []), 1), ((6, 1, 0, 0, []), 1), ((19, 98, 260, 0, []), 1), ((0, 0, 0, 1048576, []), 2), ((7, 0, 0, 0, []), 1), ((27, 0, 0, 0, []), 1)] 11 _ _ _ (by decide +kernel) ?_
    obtain ⟨g2, h⟩ := px_gd h
    refine And.intro g2 ?_
    refine And.intro (show (1048576 : Int) ≠ 0 from by decide) (fun r3 hr3 => ?_)
    replace hr3 : r3 = pDiv (σ 98 (pw ((σ 84 25) - 1)).toNat) 1048576 := hr3.trans (px_dr_0 _ _)
    try rw [← hr3] at h
    exact Prod.mk.inj (Option.some.inj h)
theorem ok_M_waitTop_84 {l : Launch} {σ : pS} {v : Int} {σ1 : pS} (h : f_M_waitTop_84  σ = some (v, σ1)) : Con l 0 155 [.inr 84] σ v σ1 := Con_mk 1 1 rfl (by decide +kernel) (fun _ H => ok_M_waitTop_84_w H  _ h)
def f_M_closesSums_84_p37 (k_0 : Int → pS → Option (Int × pS)) (a1 : Int) (σ : pS) : Option (Int × pS) := (f_M_waitTop_84  σ).bind fun q6 => ((f_M_notes_84 q6.1 0 q6.2).bind fun q7 => (k_0 a1 (pU q7.2 84 25 (pw ((q7.2 84 25) - 1)))))
def f_M_closesSums_84_p17 (k_0 : Int → pS → Option (Int × pS)) (a1 : Int) (σ : pS) : Option (Int × pS) := if a1 = 0 then (some (0, σ)) else ((f_M_waitTop_84  σ).bind fun q4 => (if q4.1 = 2 then (f_M_closesSums_84_p37 k_0 a1 q4.2) else ((f_M_waitTop_84  q4.2).bind fun q8 => (if q8.1 = 3 then (f_M_closesSums_84_p37 k_0 a1 q8.2) else (some (0, q8.2))))))
def f_M_closesSums_84_p0 : Nat → Int → pS → Option (Int × pS)
  | 0, _, _ => none
  | n + 1, a1, σ => (f_M_waitTop_84  σ).bind fun q1 => (if q1.1 < 4 then (f_M_closesSums_84_p17 (f_M_closesSums_84_p0 n) a1 q1.2) else ((f_M_waitTop_84  q1.2).bind fun q10 => (if q10.1 ≤ 6 then (f_M_closesSums_84_p37 (f_M_closesSums_84_p0 n) a1 q10.2) else (f_M_closesSums_84_p17 (f_M_closesSums_84_p0 n) a1 q10.2))))
def f_M_closesSums_84 (a1 : Int) (σ : pS) : Option (Int × pS) := f_M_closesSums_84_p0 4096 a1 σ
theorem ok_M_closesSums_84_p37 {l : Launch} {rv : Int} {rσ : pS} {G : Nat → pL → List pV → pS → Prop} (H : px_R l 1 154 rv rσ G) {k_0 : Int → pS → Option (Int × pS)} (hk_0 : ∀ (a1 : Int) (σ : pS), k_0 a1 σ = some (rv, rσ) → G 0 [some (.inr 84), some (.inl a1)] [] σ) : ∀ (a1 : Int) (σ : pS), f_M_closesSums_84_p37 k_0 a1 σ = some (rv, rσ) → G 37 [some (.inr 84), some (.inl a1)] [] σ := by
  intro a1 σ h
  unfold f_M_closesSums_84_p37 at h
  refine H [((2, 0, 0, 0, []), 1), ((2, 0, 0, 0, []), 1), ((23, 155, 0, 1, [(0, 84)]), 3), ((0, 0, 0, 0, []), 1), ((23, 151, 2, 0, [(0, 84)]), 3), ((2, 0, 0, 0, []), 1), ((2, 0, 0, 0, []), 1), ((16, 84, 25, 0, []), 3), ((0, 0, 0, 1, []), 1), ((6, 1, 0, 0, []), 1), ((18, 84, 25, 0, []), 3), ((12, 0, 0, 0, []), 3)] 37 _ _ _ (by decide +kernel) ?_
  obtain ⟨⟨vq6, σq6⟩, hq6, h⟩ := px_bind h
  dsimp only at h
  refine Exists.intro 0 (Exists.intro vq6 (Exists.intro σq6 (And.intro (Nat.le_of_ble_eq_true rfl) (And.intro (ok_M_waitTop_84 hq6) ?_))))
  obtain ⟨⟨vq7, σq7⟩, hq7, h⟩ := px_bind h
  dsimp only at h
  refine Exists.intro 0 (Exists.intro vq7 (Exists.intro σq7 (And.intro (Nat.le_of_ble_eq_true rfl) (And.intro (ok_M_notes_84 hq7) ?_))))
  exact hk_0 _ _ h
theorem ok_M_closesSums_84_p17 {l : Launch} {rv : Int} {rσ : pS} {G : Nat → pL → List pV → pS → Prop} (H : px_R l 1 154 rv rσ G) {k_0 : Int → pS → Option (Int × pS)} (hk_0 : ∀ (a1 : Int) (σ : pS), k_0 a1 σ = some (rv, rσ) → G 0 [some (.inr 84), some (.inl a1)] [] σ) : ∀ (a1 : Int) (σ : pS), f_M_closesSums_84_p17 k_0 a1 σ = some (rv, rσ) → G 17 [some (.inr 84), some (.inl a1)] [] σ := by
  intro a1 σ h
  unfold f_M_closesSums_84_p17 at h
  refine H [((1, 1, 0, 0, []), 1), ((14, 0, 59, 0, []), 3), ((2, 0, 0, 0, []), 1), ((23, 155, 0, 1, [(0, 84)]), 3), ((0, 0, 0, 2, []), 1), ((13, 0, 37, 0, []), 3), ((2, 0, 0, 0, []), 1), ((23, 155, 0, 1, [(0, 84)]), 3), ((0, 0, 0, 3, []), 1), ((13, 1, 59, 0, []), 3)] 17 _ _ _ (by decide +kernel) ?_
  rcases px_ite h with ⟨c3, h⟩ | ⟨c3, h⟩
  · refine And.intro (fun _ => ?_) (fun hn => absurd c3 hn)
    refine H [((28, 0, 0, 0, []), 1)] 59 _ _ _ (by decide +kernel) ?_
    exact (Prod.mk.inj (Option.some.inj h)).2
  · refine And.intro (fun hp => absurd hp c3) (fun _ => ?_)
    obtain ⟨⟨vq4, σq4⟩, hq4, h⟩ := px_bind h
    dsimp only at h
    refine Exists.intro 0 (Exists.intro vq4 (Exists.intro σq4 (And.intro (Nat.le_of_ble_eq_true rfl) (And.intro (ok_M_waitTop_84 hq4) ?_))))
    rcases px_ite h with ⟨c5, h⟩ | ⟨c5, h⟩
    · refine And.intro (fun _ => ?_) (fun hn => absurd c5 hn)
      exact ok_M_closesSums_84_p37 H hk_0 _ _ h
    · refine And.intro (fun hp => absurd hp c5) (fun _ => ?_)
      obtain ⟨⟨vq8, σq8⟩, hq8, h⟩ := px_bind h
      dsimp only at h
      refine Exists.intro 0 (Exists.intro vq8 (Exists.intro σq8 (And.intro (Nat.le_of_ble_eq_true rfl) (And.intro (ok_M_waitTop_84 hq8) ?_))))
      rcases px_ite h with ⟨c9, h⟩ | ⟨c9, h⟩
      · refine And.intro (fun hp => absurd c9 hp) (fun _ => ?_)
        exact ok_M_closesSums_84_p37 H hk_0 _ _ h
      · refine And.intro (fun _ => ?_) (fun hn => absurd c9 hn)
        refine H [((28, 0, 0, 0, []), 1)] 59 _ _ _ (by decide +kernel) ?_
        exact (Prod.mk.inj (Option.some.inj h)).2
theorem ok_M_closesSums_84_p0 {l : Launch} {rv : Int} {rσ : pS} {G : Nat → pL → List pV → pS → Prop} (H : px_R l 1 154 rv rσ G) : ∀ (n : Nat) (a1 : Int) (σ : pS), f_M_closesSums_84_p0 n a1 σ = some (rv, rσ) → G 0 [some (.inr 84), some (.inl a1)] [] σ := by
  intro n
  induction n with
  | zero =>
    intro a1 σ h
    unfold f_M_closesSums_84_p0 at h
    cases h
  | succ n ih =>
    intro a1 σ h
    unfold f_M_closesSums_84_p0 at h
    refine H [((2, 0, 0, 0, []), 1), ((23, 155, 0, 1, [(0, 84)]), 3), ((0, 0, 0, 4, []), 1), ((13, 2, 17, 0, []), 3), ((2, 0, 0, 0, []), 1), ((23, 155, 0, 1, [(0, 84)]), 3), ((0, 0, 0, 6, []), 2), ((13, 5, 37, 0, []), 3)] 0 _ _ _ (by decide +kernel) ?_
    obtain ⟨⟨vq1, σq1⟩, hq1, h⟩ := px_bind h
    dsimp only at h
    refine Exists.intro 0 (Exists.intro vq1 (Exists.intro σq1 (And.intro (Nat.le_of_ble_eq_true rfl) (And.intro (ok_M_waitTop_84 hq1) ?_))))
    rcases px_ite h with ⟨c2, h⟩ | ⟨c2, h⟩
    · refine And.intro (fun _ => ?_) (fun hn => absurd c2 hn)
      exact ok_M_closesSums_84_p17 H ih _ _ h
    · refine And.intro (fun hp => absurd hp c2) (fun _ => ?_)
      obtain ⟨⟨vq10, σq10⟩, hq10, h⟩ := px_bind h
      dsimp only at h
      refine Exists.intro 0 (Exists.intro vq10 (Exists.intro σq10 (And.intro (Nat.le_of_ble_eq_true rfl) (And.intro (ok_M_waitTop_84 hq10) ?_))))
      rcases px_ite h with ⟨c11, h⟩ | ⟨c11, h⟩
      · refine And.intro (fun _ => ?_) (fun hn => absurd c11 hn)
        exact ok_M_closesSums_84_p37 H ih _ _ h
      · refine And.intro (fun hp => absurd hp c11) (fun _ => ?_)
        exact ok_M_closesSums_84_p17 H ih _ _ h
theorem ok_M_closesSums_84_w {l : Launch} {rv : Int} {rσ : pS} {G : Nat → pL → List pV → pS → Prop} (H : px_R l 1 154 rv rσ G) : ∀ (a1 : Int) (σ : pS), f_M_closesSums_84 a1 σ = some (rv, rσ) → G 0 [some (.inr 84), some (.inl a1)] [] σ := by
  intro a1 σ h
  unfold f_M_closesSums_84 at h
  refine H [] 0 _ _ _ (by decide +kernel) ?_
  exact ok_M_closesSums_84_p0 H _ _ _ h
theorem ok_M_closesSums_84 {l : Launch} {a1 : Int} {σ : pS} {v : Int} {σ1 : pS} (h : f_M_closesSums_84 a1 σ = some (v, σ1)) : Con l 1 154 [.inr 84, .inl a1] σ v σ1 := Con_mk 2 2 rfl (by decide +kernel) (fun _ H => ok_M_closesSums_84_w H _ _ h)
def f_M_readsSum_84_p138 (a1 : Int) (σ : pS) : Option (Int × pS) := (f_M_hasOpenSum_84 a1 σ).bind fun q8 => (if q8.1 = 0 then ((f_M_closesSums_84 1 q8.2).bind fun q10 => (some (1, q10.2))) else ((f_M_wrongAt_84 1 (q8.2 84 19) q8.2).bind fun q11 => (if 0 ≤ q11.1 ∧ q11.1 ≤ 1 then (some (q11.1, q11.2)) else none)))
def f_M_readsSum_84_p38 (k_14 : Int → pS → Option (Int × pS)) (a1 a2 s0 : Int) (σ : pS) : Option (Int × pS) := (f_M_closesSums_84 s0 σ).bind fun q17 => (if 0 ≤ (q17.2 84 25) ∧ (q17.2 84 25) < 260 then ((f_M_readsFactor_84  (pU (pU (pU q17.2 98 ((q17.2 84 25).toNat) (pw (1048576 * a2))) 84 25 (pw ((q17.2 84 25) + 1))) 84 19 (pw ((q17.2 84 19) + 1)))).bind fun q19 => (if q19.1 = 0 then (some (0, q19.2)) else (k_14 a1 q19.2))) else none)
def f_M_readsSum_84_p14 : Nat → Int → pS → Option (Int × pS)
  | 0, _, _ => none
  | n + 1, a1, σ => (f_M_here_84  σ).bind fun q3 => ((f_M_sumSign q3.1 q3.2).bind fun q4 => (if q4.1 = (-1) then ((f_M_here_84  q4.2).bind fun q6 => (if q6.1 = 93 then ((f_M_hasOpenSum_84 a1 q6.2).bind fun q13 => (if q13.1 = 0 then (f_M_readsSum_84_p138 a1 q13.2) else ((f_M_closesSums_84 1 q13.2).bind fun q15 => (f_M_readsSum_84_p14 n a1 (pU (pU (pU q15.2 84 25 (pw ((q15.2 84 25) - 1))) 84 23 (pw ((q15.2 84 23) - 1))) 84 19 (pw ((q15.2 84 19) + 1))))))) else (f_M_readsSum_84_p138 a1 q6.2))) else (if 4 ≤ q4.1 then (f_M_readsSum_84_p38 (f_M_readsSum_84_p14 n) a1 q4.1 0 q4.2) else (f_M_readsSum_84_p38 (f_M_readsSum_84_p14 n) a1 q4.1 1 q4.2))))
def f_M_readsSum_84 (σ : pS) : Option (Int × pS) := (f_M_readsFactor_84  σ).bind fun q1 => (if q1.1 = 0 then (some (0, q1.2)) else (f_M_readsSum_84_p14 4096 (σ 84 25) q1.2))
theorem ok_M_readsSum_84_p138 {l : Launch} {rv : Int} {rσ : pS} {G : Nat → pL → List pV → pS → Prop} (H : px_R l 4 146 rv rσ G) : ∀ (a1 : Int) (σ : pS), f_M_readsSum_84_p138 a1 σ = some (rv, rσ) → G 138 [some (.inr 84), some (.inl a1), none] [] σ := by
  intro a1 σ h
  unfold f_M_readsSum_84_p138 at h
  refine H [((2, 0, 0, 0, []), 1), ((1, 1, 0, 0, []), 1), ((23, 156, 1, 1, [(0, 84)]), 3), ((14, 0, 156, 0, []), 3), ((2, 0, 0, 0, []), 1), ((0, 0, 0, 1, []), 1), ((2, 0, 0, 0, []), 1), ((16, 84, 19, 0, []), 3), ((23, 145, 2, 1, [(0, 84)]), 3), ((27, 1, 0, 0, []), 1)] 138 _ _ _ (by decide +kernel) ?_
  obtain ⟨⟨vq8, σq8⟩, hq8, h⟩ := px_bind h
  dsimp only at h
  refine Exists.intro 0 (Exists.intro vq8 (Exists.intro σq8 (And.intro (Nat.le_of_ble_eq_true rfl) (And.intro (ok_M_hasOpenSum_84 hq8) ?_))))
  rcases px_ite h with ⟨c9, h⟩ | ⟨c9, h⟩
  · refine And.intro (fun _ => ?_) (fun hn => absurd c9 hn)
    refine H [((2, 0, 0, 0, []), 1), ((0, 0, 0, 1, []), 1), ((23, 154, 1, 0, [(0, 84)]), 3), ((0, 0, 0, 1, []), 1), ((27, 1, 0, 0, []), 1)] 156 _ _ _ (by decide +kernel) ?_
    obtain ⟨⟨vq10, σq10⟩, hq10, h⟩ := px_bind h
    dsimp only at h
    refine Exists.intro 1 (Exists.intro vq10 (Exists.intro σq10 (And.intro (Nat.le_of_ble_eq_true rfl) (And.intro (ok_M_closesSums_84 hq10) ?_))))
    refine And.intro (show (0 : Int) ≤ 1 ∧ (1 : Int) ≤ 1 from by decide) ?_
    exact Prod.mk.inj (Option.some.inj h)
  · refine And.intro (fun hp => absurd hp c9) (fun _ => ?_)
    obtain ⟨⟨vq11, σq11⟩, hq11, h⟩ := px_bind h
    dsimp only at h
    refine Exists.intro 0 (Exists.intro vq11 (Exists.intro σq11 (And.intro (Nat.le_of_ble_eq_true rfl) (And.intro (ok_M_wrongAt_84 hq11) ?_))))
    obtain ⟨g12, h⟩ := px_gd h
    refine And.intro g12 ?_
    exact Prod.mk.inj (Option.some.inj h)
theorem ok_M_readsSum_84_p38 {l : Launch} {rv : Int} {rσ : pS} {G : Nat → pL → List pV → pS → Prop} (H : px_R l 4 146 rv rσ G) {k_14 : Int → pS → Option (Int × pS)} (hk_14 : ∀ (a1 : Int) (σ : pS), k_14 a1 σ = some (rv, rσ) → G 14 [some (.inr 84), some (.inl a1), none] [] σ) : ∀ (a1 a2 s0 : Int) (σ : pS), f_M_readsSum_84_p38 k_14 a1 a2 s0 σ = some (rv, rσ) → G 38 [some (.inr 84), some (.inl a1), some (.inl a2)] [.inl s0, .inr 84] σ := by
  intro a1 a2 s0 σ h
  unfold f_M_readsSum_84_p38 at h
  refine H [((23, 154, 1, 0, [(0, 84)]), 3), ((2, 0, 0, 0, []), 1), ((17, 84, 98, 0, []), 3), ((2, 0, 0, 0, []), 1), ((16, 84, 25, 0, []), 3), ((0, 0, 0, 1048576, []), 2), ((1, 2, 0, 0, []), 1), ((6, 2, 0, 0, []), 1), ((20, 98, 260, 0, []), 1), ((2, 0, 0, 0, []), 1), ((2, 0, 0, 0, []), 1), ((16, 84, 25, 0, []), 3), ((0, 0, 0, 1, []), 1), ((6, 0, 0, 0, []), 1), ((18, 84, 25, 0, []), 3), ((2, 0, 0, 0, []), 1), ((2, 0, 0, 0, []), 1), ((16, 84, 19, 0, []), 3), ((0, 0, 0, 1, []), 1), ((6, 0, 0, 0, []), 1), ((18, 84, 19, 0, []), 3), ((2, 0, 0, 0, []), 1), ((23, 147, 0, 1, [(0, 84)]), 3), ((14, 1, 163, 0, []), 3), ((0, 0, 0, 0, []), 1), ((27, 1, 0, 0, []), 1)] 38 _ _ _ (by decide +kernel) ?_
  obtain ⟨⟨vq17, σq17⟩, hq17, h⟩ := px_bind h
  dsimp only at h
  refine Exists.intro 1 (Exists.intro vq17 (Exists.intro σq17 (And.intro (Nat.le_of_ble_eq_true rfl) (And.intro (ok_M_closesSums_84 hq17) ?_))))
  obtain ⟨g18, h⟩ := px_gd h
  refine And.intro g18 ?_
  obtain ⟨⟨vq19, σq19⟩, hq19, h⟩ := px_bind h
  dsimp only at h
  refine Exists.intro 3 (Exists.intro vq19 (Exists.intro σq19 (And.intro (Nat.le_of_ble_eq_true rfl) (And.intro (ok_M_readsFactor_84 hq19) ?_))))
  rcases px_ite h with ⟨c20, h⟩ | ⟨c20, h⟩
  · refine And.intro (fun hp => absurd c20 hp) (fun _ => ?_)
    refine And.intro (show (0 : Int) ≤ 0 ∧ (0 : Int) ≤ 1 from by decide) ?_
    exact Prod.mk.inj (Option.some.inj h)
  · refine And.intro (fun _ => ?_) (fun hn => absurd c20 hn)
    refine H [((12, 0, 14, 0, []), 3), ((29, 2, 0, 0, []), 0)] 163 _ _ _ (by decide +kernel) ?_
    exact hk_14 _ _ h
theorem ok_M_readsSum_84_p14 {l : Launch} {rv : Int} {rσ : pS} {G : Nat → pL → List pV → pS → Prop} (H : px_R l 4 146 rv rσ G) : ∀ (n : Nat) (a1 : Int) (σ : pS), f_M_readsSum_84_p14 n a1 σ = some (rv, rσ) → G 14 [some (.inr 84), some (.inl a1), none] [] σ := by
  intro n
  induction n with
  | zero =>
    intro a1 σ h
    unfold f_M_readsSum_84_p14 at h
    cases h
  | succ n ih =>
    intro a1 σ h
    unfold f_M_readsSum_84_p14 at h
    refine H [((2, 0, 0, 0, []), 1), ((23, 144, 0, 1, [(0, 84)]), 3), ((24, 153, 1, 1, []), 3), ((3, 2, 0, 0, []), 1), ((1, 2, 0, 0, []), 1), ((0, 0, 0, (-1), []), 1), ((13, 0, 83, 0, []), 3), ((2, 0, 0, 0, []), 1), ((1, 2, 0, 0, []), 1), ((0, 0, 0, 4, []), 1), ((13, 3, 37, 0, []), 3), ((0, 0, 0, 1, []), 1), ((12, 0, 38, 0, []), 3)] 14 _ _ _ (by decide +kernel) ?_
    obtain ⟨⟨vq3, σq3⟩, hq3, h⟩ := px_bind h
    dsimp only at h
    refine Exists.intro 0 (Exists.intro vq3 (Exists.intro σq3 (And.intro (Nat.le_of_ble_eq_true rfl) (And.intro (ok_M_here_84 hq3) ?_))))
    obtain ⟨⟨vq4, σq4⟩, hq4, h⟩ := px_bind h
    dsimp only at h
    refine Exists.intro 0 (Exists.intro vq4 (Exists.intro σq4 (And.intro (Nat.le_of_ble_eq_true rfl) (And.intro (ok_M_sumSign hq4) ?_))))
    rcases px_ite h with ⟨c5, h⟩ | ⟨c5, h⟩
    · refine And.intro (fun _ => ?_) (fun hn => absurd c5 hn)
      refine H [((2, 0, 0, 0, []), 1), ((23, 144, 0, 1, [(0, 84)]), 3), ((0, 0, 0, 93, []), 2), ((13, 1, 138, 0, []), 3), ((2, 0, 0, 0, []), 1), ((1, 1, 0, 0, []), 1), ((23, 156, 1, 1, [(0, 84)]), 3), ((14, 0, 138, 0, []), 3), ((2, 0, 0, 0, []), 1), ((0, 0, 0, 1, []), 1), ((23, 154, 1, 0, [(0, 84)]), 3), ((2, 0, 0, 0, []), 1), ((2, 0, 0, 0, []), 1), ((16, 84, 25, 0, []), 3), ((0, 0, 0, 1, []), 1), ((6, 1, 0, 0, []), 1), ((18, 84, 25, 0, []), 3), ((2, 0, 0, 0, []), 1), ((2, 0, 0, 0, []), 1), ((16, 84, 23, 0, []), 3), ((0, 0, 0, 1, []), 1), ((6, 1, 0, 0, []), 1), ((18, 84, 23, 0, []), 3), ((2, 0, 0, 0, []), 1), ((2, 0, 0, 0, []), 1), ((16, 84, 19, 0, []), 3), ((0, 0, 0, 1, []), 1), ((6, 0, 0, 0, []), 1), ((18, 84, 19, 0, []), 3), ((12, 0, 163, 0, []), 3), ((12, 0, 14, 0, []), 3), ((29, 2, 0, 0, []), 0)] 83 _ _ _ (by decide +kernel) ?_
      obtain ⟨⟨vq6, σq6⟩, hq6, h⟩ := px_bind h
      dsimp only at h
      refine Exists.intro 0 (Exists.intro vq6 (Exists.intro σq6 (And.intro (Nat.le_of_ble_eq_true rfl) (And.intro (ok_M_here_84 hq6) ?_))))
      rcases px_ite h with ⟨c7, h⟩ | ⟨c7, h⟩
      · refine And.intro (fun hp => absurd c7 hp) (fun _ => ?_)
        obtain ⟨⟨vq13, σq13⟩, hq13, h⟩ := px_bind h
        dsimp only at h
        refine Exists.intro 0 (Exists.intro vq13 (Exists.intro σq13 (And.intro (Nat.le_of_ble_eq_true rfl) (And.intro (ok_M_hasOpenSum_84 hq13) ?_))))
        rcases px_ite h with ⟨c14, h⟩ | ⟨c14, h⟩
        · refine And.intro (fun _ => ?_) (fun hn => absurd c14 hn)
          refine H [((29, 2, 0, 0, []), 0)] 138 _ _ _ (by decide +kernel) ?_
          exact ok_M_readsSum_84_p138 H _ _ h
        · refine And.intro (fun hp => absurd hp c14) (fun _ => ?_)
          obtain ⟨⟨vq15, σq15⟩, hq15, h⟩ := px_bind h
          dsimp only at h
          refine Exists.intro 1 (Exists.intro vq15 (Exists.intro σq15 (And.intro (Nat.le_of_ble_eq_true rfl) (And.intro (ok_M_closesSums_84 hq15) ?_))))
          exact ih _ _ h
      · refine And.intro (fun _ => ?_) (fun hn => absurd c7 hn)
        refine H [((29, 2, 0, 0, []), 0)] 138 _ _ _ (by decide +kernel) ?_
        exact ok_M_readsSum_84_p138 H _ _ h
    · refine And.intro (fun hp => absurd hp c5) (fun _ => ?_)
      rcases px_ite h with ⟨c16, h⟩ | ⟨c16, h⟩
      · refine And.intro (fun _ => ?_) (fun hn => absurd c16 hn)
        refine H [((0, 0, 0, 0, []), 1)] 37 _ _ _ (by decide +kernel) ?_
        exact ok_M_readsSum_84_p38 H ih _ _ _ _ h
      · refine And.intro (fun hp => absurd hp c16) (fun _ => ?_)
        exact ok_M_readsSum_84_p38 H ih _ _ _ _ h
theorem ok_M_readsSum_84_w {l : Launch} {rv : Int} {rσ : pS} {G : Nat → pL → List pV → pS → Prop} (H : px_R l 4 146 rv rσ G) : ∀ (σ : pS), f_M_readsSum_84  σ = some (rv, rσ) → G 0 [some (.inr 84), none, none] [] σ := by
  intro  σ h
  unfold f_M_readsSum_84 at h
  refine H [((2, 0, 0, 0, []), 1), ((16, 84, 25, 0, []), 3), ((3, 1, 0, 0, []), 1), ((2, 0, 0, 0, []), 1), ((23, 147, 0, 1, [(0, 84)]), 3), ((14, 1, 14, 0, []), 3), ((0, 0, 0, 0, []), 1), ((27, 1, 0, 0, []), 1)] 0 _ _ _ (by decide +kernel) ?_
  obtain ⟨⟨vq1, σq1⟩, hq1, h⟩ := px_bind h
  dsimp only at h
  refine Exists.intro 3 (Exists.intro vq1 (Exists.intro σq1 (And.intro (Nat.le_of_ble_eq_true rfl) (And.intro (ok_M_readsFactor_84 hq1) ?_))))
  rcases px_ite h with ⟨c2, h⟩ | ⟨c2, h⟩
  · refine And.intro (fun hp => absurd c2 hp) (fun _ => ?_)
    refine And.intro (show (0 : Int) ≤ 0 ∧ (0 : Int) ≤ 1 from by decide) ?_
    exact Prod.mk.inj (Option.some.inj h)
  · refine And.intro (fun _ => ?_) (fun hn => absurd c2 hn)
    exact ok_M_readsSum_84_p14 H _ _ _ h
theorem ok_M_readsSum_84 {l : Launch} {σ : pS} {v : Int} {σ1 : pS} (h : f_M_readsSum_84  σ = some (v, σ1)) : Con l 4 146 [.inr 84] σ v σ1 := Con_mk 1 3 rfl (by decide +kernel) (fun _ H => ok_M_readsSum_84_w H  _ h)
