def f_M_endsPiece_84_p0 : Nat → pS → Option (Int × pS)
  | 0, _ => none
  | n + 1, σ => (f_M_waitTop_84  σ).bind fun q1 => (if q1.1 = 10 then ((f_M_notes_84 10 0 q1.2).bind fun q3 => (f_M_endsPiece_84_p0 n  (pU (pU q3.2 84 25 (pw ((q3.2 84 25) - 1))) 84 23 (pw ((q3.2 84 23) - 1))))) else (some (0, q1.2)))
def f_M_endsPiece_84 (σ : pS) : Option (Int × pS) := f_M_endsPiece_84_p0 4096  σ
theorem ok_M_endsPiece_84_p0 {l : Launch} {rv : Int} {rσ : pS} {G : Nat → pL → List pV → pS → Prop} (H : px_R l 1 159 rv rσ G) : ∀ (n : Nat) (σ : pS), f_M_endsPiece_84_p0 n  σ = some (rv, rσ) → G 0 [some (.inr 84)] [] σ := by
  intro n
  induction n with
  | zero =>
    intro  σ h
    unfold f_M_endsPiece_84_p0 at h
    cases h
  | succ n ih =>
    intro  σ h
    unfold f_M_endsPiece_84_p0 at h
    refine H [((2, 0, 0, 0, []), 1), ((23, 155, 0, 1, [(0, 84)]), 3), ((0, 0, 0, 10, []), 2), ((13, 1, 39, 0, []), 3), ((2, 0, 0, 0, []), 1), ((0, 0, 0, 10, []), 2), ((0, 0, 0, 0, []), 1), ((23, 151, 2, 0, [(0, 84)]), 3), ((2, 0, 0, 0, []), 1), ((2, 0, 0, 0, []), 1), ((16, 84, 25, 0, []), 3), ((0, 0, 0, 1, []), 1), ((6, 1, 0, 0, []), 1), ((18, 84, 25, 0, []), 3), ((2, 0, 0, 0, []), 1), ((2, 0, 0, 0, []), 1), ((16, 84, 23, 0, []), 3), ((0, 0, 0, 1, []), 1), ((6, 1, 0, 0, []), 1), ((18, 84, 23, 0, []), 3), ((12, 0, 0, 0, []), 3)] 0 _ _ _ (by decide +kernel) ?_
    obtain ⟨⟨vq1, σq1⟩, hq1, h⟩ := px_bind h
    dsimp only at h
    refine Exists.intro 0 (Exists.intro vq1 (Exists.intro σq1 (And.intro (Nat.le_of_ble_eq_true rfl) (And.intro (ok_M_waitTop_84 hq1) ?_))))
    rcases px_ite h with ⟨c2, h⟩ | ⟨c2, h⟩
    · refine And.intro (fun hp => absurd c2 hp) (fun _ => ?_)
      obtain ⟨⟨vq3, σq3⟩, hq3, h⟩ := px_bind h
      dsimp only at h
      refine Exists.intro 0 (Exists.intro vq3 (Exists.intro σq3 (And.intro (Nat.le_of_ble_eq_true rfl) (And.intro (ok_M_notes_84 hq3) ?_))))
      exact ih  _ h
    · refine And.intro (fun _ => ?_) (fun hn => absurd c2 hn)
      refine H [((28, 0, 0, 0, []), 1)] 39 _ _ _ (by decide +kernel) ?_
      exact (Prod.mk.inj (Option.some.inj h)).2
theorem ok_M_endsPiece_84_w {l : Launch} {rv : Int} {rσ : pS} {G : Nat → pL → List pV → pS → Prop} (H : px_R l 1 159 rv rσ G) : ∀ (σ : pS), f_M_endsPiece_84  σ = some (rv, rσ) → G 0 [some (.inr 84)] [] σ := by
  intro  σ h
  unfold f_M_endsPiece_84 at h
  refine H [] 0 _ _ _ (by decide +kernel) ?_
  exact ok_M_endsPiece_84_p0 H _  _ h
theorem ok_M_endsPiece_84 {l : Launch} {σ : pS} {v : Int} {σ1 : pS} (h : f_M_endsPiece_84  σ = some (v, σ1)) : Con l 1 159 [.inr 84] σ v σ1 := Con_mk 1 1 rfl (by decide +kernel) (fun _ H => ok_M_endsPiece_84_w H  _ h)
def f_M_readsCompared_84_p52 (s0 : Int) (σ : pS) : Option (Int × pS) := if s0 = (-1) then ((f_M_wrongAt_84 1 (σ 84 19) σ).bind fun q14 => (if 0 ≤ q14.1 ∧ q14.1 ≤ 1 then (some (q14.1, q14.2)) else none)) else ((f_M_readsSum_84  (pU σ 84 19 (pw ((σ 84 19) + 1)))).bind fun q10 => (if q10.1 = 0 then (some (0, q10.2)) else ((f_M_notes_84 s0 0 q10.2).bind fun q12 => ((f_M_endsPiece_84  q12.2).bind fun q13 => (some (1, q13.2))))))
def f_M_readsCompared_84 (σ : pS) : Option (Int × pS) := (f_M_readsSum_84  σ).bind fun q1 => (if q1.1 = 0 then (some (0, q1.2)) else ((f_M_here_84  q1.2).bind fun q3 => (if q3.1 = 60 then (f_M_readsCompared_84_p52 7 q3.2) else ((f_M_here_84  q3.2).bind fun q5 => (if q5.1 = 62 then (f_M_readsCompared_84_p52 8 q5.2) else ((f_M_here_84  q5.2).bind fun q7 => (if q7.1 = 61 then (f_M_readsCompared_84_p52 9 q7.2) else (f_M_readsCompared_84_p52 (-1) q7.2))))))))
theorem ok_M_readsCompared_84_p52 {l : Launch} {rv : Int} {rσ : pS} {G : Nat → pL → List pV → pS → Prop} (H : px_R l 5 158 rv rσ G) : ∀ (s0 : Int) (σ : pS), f_M_readsCompared_84_p52 s0 σ = some (rv, rσ) → G 52 [some (.inr 84), none] [.inl s0] σ := by
  intro s0 σ h
  unfold f_M_readsCompared_84_p52 at h
  refine H [((3, 1, 0, 0, []), 1), ((1, 1, 0, 0, []), 1), ((0, 0, 0, (-1), []), 1), ((13, 1, 68, 0, []), 3), ((2, 0, 0, 0, []), 1), ((0, 0, 0, 1, []), 1), ((2, 0, 0, 0, []), 1), ((16, 84, 19, 0, []), 3), ((23, 145, 2, 1, [(0, 84)]), 3), ((27, 1, 0, 0, []), 1)] 52 _ _ _ (by decide +kernel) ?_
  rcases px_ite h with ⟨c9, h⟩ | ⟨c9, h⟩
  · refine And.intro (fun hp => absurd c9 hp) (fun _ => ?_)
    obtain ⟨⟨vq14, σq14⟩, hq14, h⟩ := px_bind h
    dsimp only at h
    refine Exists.intro 0 (Exists.intro vq14 (Exists.intro σq14 (And.intro (Nat.le_of_ble_eq_true rfl) (And.intro (ok_M_wrongAt_84 hq14) ?_))))
    obtain ⟨g15, h⟩ := px_gd h
    refine And.intro g15 ?_
    exact Prod.mk.inj (Option.some.inj h)
  · refine And.intro (fun _ => ?_) (fun hn => absurd c9 hn)
    refine H [((2, 0, 0, 0, []), 1), ((2, 0, 0, 0, []), 1), ((16, 84, 19, 0, []), 3), ((0, 0, 0, 1, []), 1), ((6, 0, 0, 0, []), 1), ((18, 84, 19, 0, []), 3), ((2, 0, 0, 0, []), 1), ((23, 146, 0, 1, [(0, 84)]), 3), ((14, 1, 87, 0, []), 3), ((0, 0, 0, 0, []), 1), ((27, 1, 0, 0, []), 1)] 68 _ _ _ (by decide +kernel) ?_
    obtain ⟨⟨vq10, σq10⟩, hq10, h⟩ := px_bind h
    dsimp only at h
    refine Exists.intro 4 (Exists.intro vq10 (Exists.intro σq10 (And.intro (Nat.le_of_ble_eq_true rfl) (And.intro (ok_M_readsSum_84 hq10) ?_))))
    rcases px_ite h with ⟨c11, h⟩ | ⟨c11, h⟩
    · refine And.intro (fun hp => absurd c11 hp) (fun _ => ?_)
      refine And.intro (show (0 : Int) ≤ 0 ∧ (0 : Int) ≤ 1 from by decide) ?_
      exact Prod.mk.inj (Option.some.inj h)
    · refine And.intro (fun _ => ?_) (fun hn => absurd c11 hn)
      refine H [((2, 0, 0, 0, []), 1), ((1, 1, 0, 0, []), 1), ((0, 0, 0, 0, []), 1), ((23, 151, 2, 0, [(0, 84)]), 3), ((2, 0, 0, 0, []), 1), ((23, 159, 0, 0, [(0, 84)]), 3), ((0, 0, 0, 1, []), 1), ((27, 1, 0, 0, []), 1)] 87 _ _ _ (by decide +kernel) ?_
      obtain ⟨⟨vq12, σq12⟩, hq12, h⟩ := px_bind h
      dsimp only at h
      refine Exists.intro 0 (Exists.intro vq12 (Exists.intro σq12 (And.intro (Nat.le_of_ble_eq_true rfl) (And.intro (ok_M_notes_84 hq12) ?_))))
      obtain ⟨⟨vq13, σq13⟩, hq13, h⟩ := px_bind h
      dsimp only at h
      refine Exists.intro 1 (Exists.intro vq13 (Exists.intro σq13 (And.intro (Nat.le_of_ble_eq_true rfl) (And.intro (ok_M_endsPiece_84 hq13) ?_))))
      refine And.intro (show (0 : Int) ≤ 1 ∧ (1 : Int) ≤ 1 from by decide) ?_
      exact Prod.mk.inj (Option.some.inj h)
theorem ok_M_readsCompared_84_w {l : Launch} {rv : Int} {rσ : pS} {G : Nat → pL → List pV → pS → Prop} (H : px_R l 5 158 rv rσ G) : ∀ (σ : pS), f_M_readsCompared_84  σ = some (rv, rσ) → G 0 [some (.inr 84), none] [] σ := by
  intro  σ h
  unfold f_M_readsCompared_84 at h
  refine H [((2, 0, 0, 0, []), 1), ((23, 146, 0, 1, [(0, 84)]), 3), ((14, 1, 9, 0, []), 3), ((0, 0, 0, 0, []), 1), ((27, 1, 0, 0, []), 1)] 0 _ _ _ (by decide +kernel) ?_
  obtain ⟨⟨vq1, σq1⟩, hq1, h⟩ := px_bind h
  dsimp only at h
  refine Exists.intro 4 (Exists.intro vq1 (Exists.intro σq1 (And.intro (Nat.le_of_ble_eq_true rfl) (And.intro (ok_M_readsSum_84 hq1) ?_))))
  rcases px_ite h with ⟨c2, h⟩ | ⟨c2, h⟩
  · refine And.intro (fun hp => absurd c2 hp) (fun _ => ?_)
    refine And.intro (show (0 : Int) ≤ 0 ∧ (0 : Int) ≤ 1 from by decide) ?_
    exact Prod.mk.inj (Option.some.inj h)
  · refine And.intro (fun _ => ?_) (fun hn => absurd c2 hn)
    refine H [((2, 0, 0, 0, []), 1), ((23, 144, 0, 1, [(0, 84)]), 3), ((0, 0, 0, 60, []), 2), ((13, 1, 23, 0, []), 3), ((0, 0, 0, 7, []), 2), ((12, 0, 52, 0, []), 3)] 9 _ _ _ (by decide +kernel) ?_
    obtain ⟨⟨vq3, σq3⟩, hq3, h⟩ := px_bind h
    dsimp only at h
    refine Exists.intro 0 (Exists.intro vq3 (Exists.intro σq3 (And.intro (Nat.le_of_ble_eq_true rfl) (And.intro (ok_M_here_84 hq3) ?_))))
    rcases px_ite h with ⟨c4, h⟩ | ⟨c4, h⟩
    · refine And.intro (fun hp => absurd c4 hp) (fun _ => ?_)
      exact ok_M_readsCompared_84_p52 H _ _ h
    · refine And.intro (fun _ => ?_) (fun hn => absurd c4 hn)
      refine H [((2, 0, 0, 0, []), 1), ((23, 144, 0, 1, [(0, 84)]), 3), ((0, 0, 0, 62, []), 2), ((13, 1, 37, 0, []), 3), ((0, 0, 0, 8, []), 2), ((12, 0, 52, 0, []), 3)] 23 _ _ _ (by decide +kernel) ?_
      obtain ⟨⟨vq5, σq5⟩, hq5, h⟩ := px_bind h
      dsimp only at h
      refine Exists.intro 0 (Exists.intro vq5 (Exists.intro σq5 (And.intro (Nat.le_of_ble_eq_true rfl) (And.intro (ok_M_here_84 hq5) ?_))))
      rcases px_ite h with ⟨c6, h⟩ | ⟨c6, h⟩
      · refine And.intro (fun hp => absurd c6 hp) (fun _ => ?_)
        exact ok_M_readsCompared_84_p52 H _ _ h
      · refine And.intro (fun _ => ?_) (fun hn => absurd c6 hn)
        refine H [((2, 0, 0, 0, []), 1), ((23, 144, 0, 1, [(0, 84)]), 3), ((0, 0, 0, 61, []), 2), ((13, 1, 51, 0, []), 3), ((0, 0, 0, 9, []), 2), ((12, 0, 52, 0, []), 3)] 37 _ _ _ (by decide +kernel) ?_
        obtain ⟨⟨vq7, σq7⟩, hq7, h⟩ := px_bind h
        dsimp only at h
        refine Exists.intro 0 (Exists.intro vq7 (Exists.intro σq7 (And.intro (Nat.le_of_ble_eq_true rfl) (And.intro (ok_M_here_84 hq7) ?_))))
        rcases px_ite h with ⟨c8, h⟩ | ⟨c8, h⟩
        · refine And.intro (fun hp => absurd c8 hp) (fun _ => ?_)
          exact ok_M_readsCompared_84_p52 H _ _ h
        · refine And.intro (fun _ => ?_) (fun hn => absurd c8 hn)
          refine H [((0, 0, 0, (-1), []), 1)] 51 _ _ _ (by decide +kernel) ?_
          exact ok_M_readsCompared_84_p52 H _ _ h
theorem ok_M_readsCompared_84 {l : Launch} {σ : pS} {v : Int} {σ1 : pS} (h : f_M_readsCompared_84  σ = some (v, σ1)) : Con l 5 158 [.inr 84] σ v σ1 := Con_mk 1 2 rfl (by decide +kernel) (fun _ H => ok_M_readsCompared_84_w H  _ h)
def f_M_lands_84_p22 (k_0 : Int → pS → Option (Int × pS)) (a1 : Int) (σ : pS) : Option (Int × pS) := if 0 ≤ (pw ((σ 84 25) - 1)) ∧ (pw ((σ 84 25) - 1)) < 260 then (if 0 ≤ (pRem (σ 98 (pw ((σ 84 25) - 1)).toNat) 1048576) ∧ (pRem (σ 98 (pw ((σ 84 25) - 1)).toNat) 1048576) < 260 then (if 0 ≤ (pRem (σ 98 (pw ((σ 84 25) - 1)).toNat) 1048576) ∧ (pRem (σ 98 (pw ((σ 84 25) - 1)).toNat) 1048576) < 260 then (k_0 a1 (pU (pU σ 97 ((pRem (σ 98 (pw ((σ 84 25) - 1)).toNat) 1048576).toNat) (pw ((pw (1048576 * (pDiv (σ 97 (pRem (σ 98 (pw ((σ 84 25) - 1)).toNat) 1048576).toNat) 1048576))) + (σ 84 24)))) 84 25 (pw ((σ 84 25) - 1)))) else none) else none) else none
def f_M_lands_84_p0 : Nat → Int → pS → Option (Int × pS)
  | 0, _, _ => none
  | n + 1, a1, σ => (f_M_waitTop_84  σ).bind fun q1 => (if q1.1 = 11 then (f_M_lands_84_p22 (f_M_lands_84_p0 n) a1 q1.2) else (if a1 = 0 then (some (0, q1.2)) else ((f_M_waitTop_84  q1.2).bind fun q9 => (if q9.1 = 12 then (f_M_lands_84_p22 (f_M_lands_84_p0 n) a1 q9.2) else (some (0, q9.2))))))
def f_M_lands_84 (a1 : Int) (σ : pS) : Option (Int × pS) := f_M_lands_84_p0 4096 a1 σ
theorem ok_M_lands_84_p22 {l : Launch} {rv : Int} {rσ : pS} {G : Nat → pL → List pV → pS → Prop} (H : px_R l 1 160 rv rσ G) {k_0 : Int → pS → Option (Int × pS)} (hk_0 : ∀ (a1 : Int) (σ : pS), k_0 a1 σ = some (rv, rσ) → G 0 [some (.inr 84), some (.inl a1), none] [] σ) : ∀ (a1 : Int) (σ : pS), f_M_lands_84_p22 k_0 a1 σ = some (rv, rσ) → G 22 [some (.inr 84), some (.inl a1), none] [] σ := by
  intro a1 σ h
  unfold f_M_lands_84_p22 at h
  refine H [((2, 0, 0, 0, []), 1), ((17, 84, 98, 0, []), 3), ((2, 0, 0, 0, []), 1), ((16, 84, 25, 0, []), 3), ((0, 0, 0, 1, []), 1), ((6, 1, 0, 0, []), 1), ((19, 98, 260, 0, []), 1), ((0, 0, 0, 1048576, []), 2), ((7, 1, 0, 0, []), 1), ((3, 2, 0, 0, []), 1), ((2, 0, 0, 0, []), 1), ((17, 84, 97, 0, []), 3), ((1, 2, 0, 0, []), 1), ((0, 0, 0, 1048576, []), 2), ((2, 0, 0, 0, []), 1), ((17, 84, 97, 0, []), 3), ((1, 2, 0, 0, []), 1), ((19, 97, 260, 0, []), 1), ((0, 0, 0, 1048576, []), 2), ((7, 0, 0, 0, []), 1), ((6, 2, 0, 0, []), 1), ((2, 0, 0, 0, []), 1), ((16, 84, 24, 0, []), 3), ((6, 0, 0, 0, []), 1), ((20, 97, 260, 0, []), 1), ((2, 0, 0, 0, []), 1), ((2, 0, 0, 0, []), 1), ((16, 84, 25, 0, []), 3), ((0, 0, 0, 1, []), 1), ((6, 1, 0, 0, []), 1), ((18, 84, 25, 0, []), 3), ((12, 0, 0, 0, []), 3), ((29, 2, 0, 0, []), 0)] 22 _ _ _ (by decide +kernel) ?_
  obtain ⟨g3, h⟩ := px_gd h
  refine And.intro g3 ?_
  refine And.intro (show (1048576 : Int) ≠ 0 from by decide) (fun r4 hr4 => ?_)
  replace hr4 : r4 = pRem (σ 98 (pw ((σ 84 25) - 1)).toNat) 1048576 := hr4.trans (px_dr_1 _ _)
  try rw [← hr4] at h
  obtain ⟨g5, h⟩ := px_gd h
  refine And.intro g5 ?_
  refine And.intro (show (1048576 : Int) ≠ 0 from by decide) (fun r6 hr6 => ?_)
  replace hr6 : r6 = pDiv (σ 97 r4.toNat) 1048576 := hr6.trans (px_dr_0 _ _)
  try rw [← hr6] at h
  obtain ⟨g7, h⟩ := px_gd h
  refine And.intro g7 ?_
  exact hk_0 _ _ h
theorem ok_M_lands_84_p0 {l : Launch} {rv : Int} {rσ : pS} {G : Nat → pL → List pV → pS → Prop} (H : px_R l 1 160 rv rσ G) : ∀ (n : Nat) (a1 : Int) (σ : pS), f_M_lands_84_p0 n a1 σ = some (rv, rσ) → G 0 [some (.inr 84), some (.inl a1), none] [] σ := by
  intro n
  induction n with
  | zero =>
    intro a1 σ h
    unfold f_M_lands_84_p0 at h
    cases h
  | succ n ih =>
    intro a1 σ h
    unfold f_M_lands_84_p0 at h
    refine H [((2, 0, 0, 0, []), 1), ((23, 155, 0, 1, [(0, 84)]), 3), ((0, 0, 0, 11, []), 2), ((13, 0, 22, 0, []), 3), ((1, 1, 0, 0, []), 1), ((14, 0, 73, 0, []), 3), ((2, 0, 0, 0, []), 1), ((23, 155, 0, 1, [(0, 84)]), 3), ((0, 0, 0, 12, []), 2), ((13, 1, 73, 0, []), 3)] 0 _ _ _ (by decide +kernel) ?_
    obtain ⟨⟨vq1, σq1⟩, hq1, h⟩ := px_bind h
    dsimp only at h
    refine Exists.intro 0 (Exists.intro vq1 (Exists.intro σq1 (And.intro (Nat.le_of_ble_eq_true rfl) (And.intro (ok_M_waitTop_84 hq1) ?_))))
    rcases px_ite h with ⟨c2, h⟩ | ⟨c2, h⟩
    · refine And.intro (fun _ => ?_) (fun hn => absurd c2 hn)
      exact ok_M_lands_84_p22 H ih _ _ h
    · refine And.intro (fun hp => absurd hp c2) (fun _ => ?_)
      rcases px_ite h with ⟨c8, h⟩ | ⟨c8, h⟩
      · refine And.intro (fun _ => ?_) (fun hn => absurd c8 hn)
        refine H [((28, 0, 0, 0, []), 1)] 73 _ _ _ (by decide +kernel) ?_
        exact (Prod.mk.inj (Option.some.inj h)).2
      · refine And.intro (fun hp => absurd hp c8) (fun _ => ?_)
        obtain ⟨⟨vq9, σq9⟩, hq9, h⟩ := px_bind h
        dsimp only at h
        refine Exists.intro 0 (Exists.intro vq9 (Exists.intro σq9 (And.intro (Nat.le_of_ble_eq_true rfl) (And.intro (ok_M_waitTop_84 hq9) ?_))))
        rcases px_ite h with ⟨c10, h⟩ | ⟨c10, h⟩
        · refine And.intro (fun hp => absurd c10 hp) (fun _ => ?_)
          exact ok_M_lands_84_p22 H ih _ _ h
        · refine And.intro (fun _ => ?_) (fun hn => absurd c10 hn)
          refine H [((28, 0, 0, 0, []), 1)] 73 _ _ _ (by decide +kernel) ?_
          exact (Prod.mk.inj (Option.some.inj h)).2
theorem ok_M_lands_84_w {l : Launch} {rv : Int} {rσ : pS} {G : Nat → pL → List pV → pS → Prop} (H : px_R l 1 160 rv rσ G) : ∀ (a1 : Int) (σ : pS), f_M_lands_84 a1 σ = some (rv, rσ) → G 0 [some (.inr 84), some (.inl a1), none] [] σ := by
  intro a1 σ h
  unfold f_M_lands_84 at h
  refine H [] 0 _ _ _ (by decide +kernel) ?_
  exact ok_M_lands_84_p0 H _ _ _ h
theorem ok_M_lands_84 {l : Launch} {a1 : Int} {σ : pS} {v : Int} {σ1 : pS} (h : f_M_lands_84 a1 σ = some (v, σ1)) : Con l 1 160 [.inr 84, .inl a1] σ v σ1 := Con_mk 2 3 rfl (by decide +kernel) (fun _ H => ok_M_lands_84_w H _ _ h)
def f_M_jumps_84 (a1 : Int) (σ : pS) : Option (Int × pS) := if 0 ≤ (σ 84 25) ∧ (σ 84 25) < 260 then ((f_M_notes_84 a1 0 (pU (pU σ 98 ((σ 84 25).toNat) (pw ((pw (1048576 * a1)) + (σ 84 24)))) 84 25 (pw ((σ 84 25) + 1)))).bind fun q2 => (some (0, pU q2.2 84 19 (pw ((q2.2 84 19) + 1))))) else none
theorem ok_M_jumps_84_w {l : Launch} {rv : Int} {rσ : pS} {G : Nat → pL → List pV → pS → Prop} (H : px_R l 1 161 rv rσ G) : ∀ (a1 : Int) (σ : pS), f_M_jumps_84 a1 σ = some (rv, rσ) → G 0 [some (.inr 84), some (.inl a1)] [] σ := by
  intro a1 σ h
  unfold f_M_jumps_84 at h
  refine H [((2, 0, 0, 0, []), 1), ((17, 84, 98, 0, []), 3), ((2, 0, 0, 0, []), 1), ((16, 84, 25, 0, []), 3), ((0, 0, 0, 1048576, []), 2), ((1, 1, 0, 0, []), 1), ((6, 2, 0, 0, []), 1), ((2, 0, 0, 0, []), 1), ((16, 84, 24, 0, []), 3), ((6, 0, 0, 0, []), 1), ((20, 98, 260, 0, []), 1), ((2, 0, 0, 0, []), 1), ((2, 0, 0, 0, []), 1), ((16, 84, 25, 0, []), 3), ((0, 0, 0, 1, []), 1), ((6, 0, 0, 0, []), 1), ((18, 84, 25, 0, []), 3), ((2, 0, 0, 0, []), 1), ((1, 1, 0, 0, []), 1), ((0, 0, 0, 0, []), 1), ((23, 151, 2, 0, [(0, 84)]), 3), ((2, 0, 0, 0, []), 1), ((2, 0, 0, 0, []), 1), ((16, 84, 19, 0, []), 3), ((0, 0, 0, 1, []), 1), ((6, 0, 0, 0, []), 1), ((18, 84, 19, 0, []), 3), ((28, 0, 0, 0, []), 1)] 0 _ _ _ (by decide +kernel) ?_
  obtain ⟨g1, h⟩ := px_gd h
  refine And.intro g1 ?_
  obtain ⟨⟨vq2, σq2⟩, hq2, h⟩ := px_bind h
  dsimp only at h
  refine Exists.intro 0 (Exists.intro vq2 (Exists.intro σq2 (And.intro (Nat.le_of_ble_eq_true rfl) (And.intro (ok_M_notes_84 hq2) ?_))))
  exact (Prod.mk.inj (Option.some.inj h)).2
theorem ok_M_jumps_84 {l : Launch} {a1 : Int} {σ : pS} {v : Int} {σ1 : pS} (h : f_M_jumps_84 a1 σ = some (v, σ1)) : Con l 1 161 [.inr 84, .inl a1] σ v σ1 := Con_mk 2 2 rfl (by decide +kernel) (fun _ H => ok_M_jumps_84_w H _ _ h)
def f_M_readsCondition_84_p75 (k_40 : pS → Option (Int × pS)) (s0 : Int) (σ : pS) : Option (Int × pS) := (f_M_opens_84 s0 σ).bind fun q9 => (if q9.1 = 0 then (some (0, q9.2)) else (k_40  q9.2))
def f_M_readsCondition_84_p58 (k_40 : pS → Option (Int × pS)) (σ : pS) : Option (Int × pS) := (f_M_here_84  σ).bind fun q7 => (if q7.1 = 33 then (f_M_readsCondition_84_p75 k_40 10 q7.2) else (f_M_readsCondition_84_p75 k_40 13 q7.2))
def f_M_readsCondition_84_p215 (k_40 : pS → Option (Int × pS)) (s0 : Int) (σ : pS) : Option (Int × pS) := (f_M_jumps_84 s0 σ).bind fun q24 => (k_40  q24.2)
def f_M_readsCondition_84_p195 (k_40 : pS → Option (Int × pS)) (s0 : Int) (σ : pS) : Option (Int × pS) := (f_M_lands_84 s0 σ).bind fun q21 => ((f_M_here_84  q21.2).bind fun q22 => (if q22.1 = 38 then (f_M_readsCondition_84_p215 k_40 11 q22.2) else (f_M_readsCondition_84_p215 k_40 12 q22.2)))
def f_M_readsCondition_84_p180 (k_40 : pS → Option (Int × pS)) (σ : pS) : Option (Int × pS) := (f_M_here_84  σ).bind fun q19 => (if q19.1 = 124 then (f_M_readsCondition_84_p195 k_40 1 q19.2) else (f_M_readsCondition_84_p195 k_40 0 q19.2))
def f_M_readsCondition_84_p92 (k_40 : pS → Option (Int × pS)) : Nat → pS → Option (Int × pS)
  | 0, _ => none
  | n + 1, σ => (f_M_here_84  σ).bind fun q15 => (if q15.1 = 41 then ((f_M_lands_84 1 q15.2).bind fun q29 => (if (pw ((q29.2 84 25) - 1)) = 0 then (some (1, pU (pU (pU q29.2 84 25 (pw ((q29.2 84 25) - 1))) 84 23 (pw ((q29.2 84 23) - 1))) 84 19 (pw ((q29.2 84 19) + 1)))) else ((f_M_endsPiece_84  (pU (pU (pU q29.2 84 25 (pw ((q29.2 84 25) - 1))) 84 23 (pw ((q29.2 84 23) - 1))) 84 19 (pw ((q29.2 84 19) + 1)))).bind fun q31 => (f_M_readsCondition_84_p92 k_40 n  q31.2)))) else ((f_M_here_84  q15.2).bind fun q17 => (if q17.1 = 38 then (f_M_readsCondition_84_p180 k_40  q17.2) else ((f_M_here_84  q17.2).bind fun q25 => (if q25.1 = 124 then (f_M_readsCondition_84_p180 k_40  q25.2) else ((f_M_wrongAt_84 1 (q25.2 84 19) q25.2).bind fun q27 => (if 0 ≤ q27.1 ∧ q27.1 ≤ 1 then (some (q27.1, q27.2)) else none)))))))
def f_M_readsCondition_84_p40 : Nat → pS → Option (Int × pS)
  | 0, _ => none
  | n + 1, σ => (f_M_here_84  σ).bind fun q5 => (if q5.1 = 33 then (f_M_readsCondition_84_p58 (f_M_readsCondition_84_p40 n)  q5.2) else ((f_M_here_84  q5.2).bind fun q11 => (if q11.1 = 40 then (f_M_readsCondition_84_p58 (f_M_readsCondition_84_p40 n)  q11.2) else ((f_M_readsCompared_84  q11.2).bind fun q13 => (if q13.1 = 0 then (some (0, q13.2)) else (f_M_readsCondition_84_p92 (f_M_readsCondition_84_p40 n) 4096  q13.2))))))
def f_M_readsCondition_84 (σ : pS) : Option (Int × pS) := (f_M_here_84  σ).bind fun q1 => (if q1.1 = 40 then ((f_M_opens_84 13 (pU (pU q1.2 84 23 0) 84 25 0)).bind fun q3 => (if q3.1 = 0 then (some (0, q3.2)) else (f_M_readsCondition_84_p40 4096  q3.2))) else ((f_M_wrongAt_84 1 (q1.2 84 19) q1.2).bind fun q32 => (if 0 ≤ q32.1 ∧ q32.1 ≤ 1 then (some (q32.1, q32.2)) else none)))
theorem ok_M_readsCondition_84_p75 {l : Launch} {rv : Int} {rσ : pS} {G : Nat → pL → List pV → pS → Prop} (H : px_R l 6 157 rv rσ G) {k_40 : pS → Option (Int × pS)} (hk_40 : ∀ (σ : pS), k_40  σ = some (rv, rσ) → G 40 [some (.inr 84)] [] σ) : ∀ (s0 : Int) (σ : pS), f_M_readsCondition_84_p75 k_40 s0 σ = some (rv, rσ) → G 75 [some (.inr 84)] [.inl s0, .inr 84] σ := by
  intro s0 σ h
  unfold f_M_readsCondition_84_p75 at h
  refine H [((23, 148, 1, 1, [(0, 84)]), 3), ((14, 1, 40, 0, []), 3), ((0, 0, 0, 0, []), 1), ((27, 1, 0, 0, []), 1)] 75 _ _ _ (by decide +kernel) ?_
  obtain ⟨⟨vq9, σq9⟩, hq9, h⟩ := px_bind h
  dsimp only at h
  refine Exists.intro 1 (Exists.intro vq9 (Exists.intro σq9 (And.intro (Nat.le_of_ble_eq_true rfl) (And.intro (ok_M_opens_84 hq9) ?_))))
  rcases px_ite h with ⟨c10, h⟩ | ⟨c10, h⟩
  · refine And.intro (fun hp => absurd c10 hp) (fun _ => ?_)
    refine And.intro (show (0 : Int) ≤ 0 ∧ (0 : Int) ≤ 1 from by decide) ?_
    exact Prod.mk.inj (Option.some.inj h)
  · refine And.intro (fun _ => ?_) (fun hn => absurd c10 hn)
    exact hk_40  _ h
theorem ok_M_readsCondition_84_p58 {l : Launch} {rv : Int} {rσ : pS} {G : Nat → pL → List pV → pS → Prop} (H : px_R l 6 157 rv rσ G) {k_40 : pS → Option (Int × pS)} (hk_40 : ∀ (σ : pS), k_40  σ = some (rv, rσ) → G 40 [some (.inr 84)] [] σ) : ∀ (σ : pS), f_M_readsCondition_84_p58 k_40  σ = some (rv, rσ) → G 58 [some (.inr 84)] [] σ := by
  intro  σ h
  unfold f_M_readsCondition_84_p58 at h
  refine H [((2, 0, 0, 0, []), 1), ((2, 0, 0, 0, []), 1), ((23, 144, 0, 1, [(0, 84)]), 3), ((0, 0, 0, 33, []), 2), ((13, 1, 73, 0, []), 3), ((0, 0, 0, 10, []), 2), ((12, 0, 75, 0, []), 3)] 58 _ _ _ (by decide +kernel) ?_
  obtain ⟨⟨vq7, σq7⟩, hq7, h⟩ := px_bind h
  dsimp only at h
  refine Exists.intro 0 (Exists.intro vq7 (Exists.intro σq7 (And.intro (Nat.le_of_ble_eq_true rfl) (And.intro (ok_M_here_84 hq7) ?_))))
  rcases px_ite h with ⟨c8, h⟩ | ⟨c8, h⟩
  · refine And.intro (fun hp => absurd c8 hp) (fun _ => ?_)
    exact ok_M_readsCondition_84_p75 H hk_40 _ _ h
  · refine And.intro (fun _ => ?_) (fun hn => absurd c8 hn)
    refine H [((0, 0, 0, 13, []), 2)] 73 _ _ _ (by decide +kernel) ?_
    exact ok_M_readsCondition_84_p75 H hk_40 _ _ h
theorem ok_M_readsCondition_84_p215 {l : Launch} {rv : Int} {rσ : pS} {G : Nat → pL → List pV → pS → Prop} (H : px_R l 6 157 rv rσ G) {k_40 : pS → Option (Int × pS)} (hk_40 : ∀ (σ : pS), k_40  σ = some (rv, rσ) → G 40 [some (.inr 84)] [] σ) : ∀ (s0 : Int) (σ : pS), f_M_readsCondition_84_p215 k_40 s0 σ = some (rv, rσ) → G 215 [some (.inr 84)] [.inl s0, .inr 84] σ := by
  intro s0 σ h
  unfold f_M_readsCondition_84_p215 at h
  refine H [((23, 161, 1, 0, [(0, 84)]), 3), ((12, 0, 40, 0, []), 3)] 215 _ _ _ (by decide +kernel) ?_
  obtain ⟨⟨vq24, σq24⟩, hq24, h⟩ := px_bind h
  dsimp only at h
  refine Exists.intro 1 (Exists.intro vq24 (Exists.intro σq24 (And.intro (Nat.le_of_ble_eq_true rfl) (And.intro (ok_M_jumps_84 hq24) ?_))))
  exact hk_40  _ h
theorem ok_M_readsCondition_84_p195 {l : Launch} {rv : Int} {rσ : pS} {G : Nat → pL → List pV → pS → Prop} (H : px_R l 6 157 rv rσ G) {k_40 : pS → Option (Int × pS)} (hk_40 : ∀ (σ : pS), k_40  σ = some (rv, rσ) → G 40 [some (.inr 84)] [] σ) : ∀ (s0 : Int) (σ : pS), f_M_readsCondition_84_p195 k_40 s0 σ = some (rv, rσ) → G 195 [some (.inr 84)] [.inl s0, .inr 84] σ := by
  intro s0 σ h
  unfold f_M_readsCondition_84_p195 at h
  refine H [((23, 160, 1, 0, [(0, 84)]), 3), ((2, 0, 0, 0, []), 1), ((2, 0, 0, 0, []), 1), ((23, 144, 0, 1, [(0, 84)]), 3), ((0, 0, 0, 38, []), 2), ((13, 1, 213, 0, []), 3), ((0, 0, 0, 11, []), 2), ((12, 0, 215, 0, []), 3)] 195 _ _ _ (by decide +kernel) ?_
  obtain ⟨⟨vq21, σq21⟩, hq21, h⟩ := px_bind h
  dsimp only at h
  refine Exists.intro 1 (Exists.intro vq21 (Exists.intro σq21 (And.intro (Nat.le_of_ble_eq_true rfl) (And.intro (ok_M_lands_84 hq21) ?_))))
  obtain ⟨⟨vq22, σq22⟩, hq22, h⟩ := px_bind h
  dsimp only at h
  refine Exists.intro 0 (Exists.intro vq22 (Exists.intro σq22 (And.intro (Nat.le_of_ble_eq_true rfl) (And.intro (ok_M_here_84 hq22) ?_))))
  rcases px_ite h with ⟨c23, h⟩ | ⟨c23, h⟩
  · refine And.intro (fun hp => absurd c23 hp) (fun _ => ?_)
    exact ok_M_readsCondition_84_p215 H hk_40 _ _ h
  · refine And.intro (fun _ => ?_) (fun hn => absurd c23 hn)
    refine H [((0, 0, 0, 12, []), 2)] 213 _ _ _ (by decide +kernel) ?_
    exact ok_M_readsCondition_84_p215 H hk_40 _ _ h
theorem ok_M_readsCondition_84_p180 {l : Launch} {rv : Int} {rσ : pS} {G : Nat → pL → List pV → pS → Prop} (H : px_R l 6 157 rv rσ G) {k_40 : pS → Option (Int × pS)} (hk_40 : ∀ (σ : pS), k_40  σ = some (rv, rσ) → G 40 [some (.inr 84)] [] σ) : ∀ (σ : pS), f_M_readsCondition_84_p180 k_40  σ = some (rv, rσ) → G 180 [some (.inr 84)] [] σ := by
  intro  σ h
  unfold f_M_readsCondition_84_p180 at h
  refine H [((2, 0, 0, 0, []), 1), ((2, 0, 0, 0, []), 1), ((23, 144, 0, 1, [(0, 84)]), 3), ((0, 0, 0, 124, []), 2), ((13, 1, 194, 0, []), 3), ((0, 0, 0, 1, []), 1), ((12, 0, 195, 0, []), 3)] 180 _ _ _ (by decide +kernel) ?_
  obtain ⟨⟨vq19, σq19⟩, hq19, h⟩ := px_bind h
  dsimp only at h
  refine Exists.intro 0 (Exists.intro vq19 (Exists.intro σq19 (And.intro (Nat.le_of_ble_eq_true rfl) (And.intro (ok_M_here_84 hq19) ?_))))
  rcases px_ite h with ⟨c20, h⟩ | ⟨c20, h⟩
  · refine And.intro (fun hp => absurd c20 hp) (fun _ => ?_)
    exact ok_M_readsCondition_84_p195 H hk_40 _ _ h
  · refine And.intro (fun _ => ?_) (fun hn => absurd c20 hn)
    refine H [((0, 0, 0, 0, []), 1)] 194 _ _ _ (by decide +kernel) ?_
    exact ok_M_readsCondition_84_p195 H hk_40 _ _ h
theorem ok_M_readsCondition_84_p92 {l : Launch} {rv : Int} {rσ : pS} {G : Nat → pL → List pV → pS → Prop} (H : px_R l 6 157 rv rσ G) {k_40 : pS → Option (Int × pS)} (hk_40 : ∀ (σ : pS), k_40  σ = some (rv, rσ) → G 40 [some (.inr 84)] [] σ) : ∀ (n : Nat) (σ : pS), f_M_readsCondition_84_p92 k_40 n  σ = some (rv, rσ) → G 92 [some (.inr 84)] [] σ := by
  intro n
  induction n with
  | zero =>
    intro  σ h
    unfold f_M_readsCondition_84_p92 at h
    cases h
  | succ n ih =>
    intro  σ h
    unfold f_M_readsCondition_84_p92 at h
    refine H [((2, 0, 0, 0, []), 1), ((23, 144, 0, 1, [(0, 84)]), 3), ((0, 0, 0, 41, []), 2), ((13, 1, 152, 0, []), 3), ((2, 0, 0, 0, []), 1), ((0, 0, 0, 1, []), 1), ((23, 160, 1, 0, [(0, 84)]), 3), ((2, 0, 0, 0, []), 1), ((2, 0, 0, 0, []), 1), ((16, 84, 25, 0, []), 3), ((0, 0, 0, 1, []), 1), ((6, 1, 0, 0, []), 1), ((18, 84, 25, 0, []), 3), ((2, 0, 0, 0, []), 1), ((2, 0, 0, 0, []), 1), ((16, 84, 23, 0, []), 3), ((0, 0, 0, 1, []), 1), ((6, 1, 0, 0, []), 1), ((18, 84, 23, 0, []), 3), ((2, 0, 0, 0, []), 1), ((2, 0, 0, 0, []), 1), ((16, 84, 19, 0, []), 3), ((0, 0, 0, 1, []), 1), ((6, 0, 0, 0, []), 1), ((18, 84, 19, 0, []), 3), ((2, 0, 0, 0, []), 1), ((16, 84, 25, 0, []), 3), ((14, 1, 145, 0, []), 3), ((0, 0, 0, 1, []), 1), ((27, 1, 0, 0, []), 1)] 92 _ _ _ (by decide +kernel) ?_
    obtain ⟨⟨vq15, σq15⟩, hq15, h⟩ := px_bind h
    dsimp only at h
    refine Exists.intro 0 (Exists.intro vq15 (Exists.intro σq15 (And.intro (Nat.le_of_ble_eq_true rfl) (And.intro (ok_M_here_84 hq15) ?_))))
    rcases px_ite h with ⟨c16, h⟩ | ⟨c16, h⟩
    · refine And.intro (fun hp => absurd c16 hp) (fun _ => ?_)
      obtain ⟨⟨vq29, σq29⟩, hq29, h⟩ := px_bind h
      dsimp only at h
      refine Exists.intro 1 (Exists.intro vq29 (Exists.intro σq29 (And.intro (Nat.le_of_ble_eq_true rfl) (And.intro (ok_M_lands_84 hq29) ?_))))
      rcases px_ite h with ⟨c30, h⟩ | ⟨c30, h⟩
      · refine And.intro (fun hp => absurd c30 hp) (fun _ => ?_)
        refine And.intro (show (0 : Int) ≤ 1 ∧ (1 : Int) ≤ 1 from by decide) ?_
        exact Prod.mk.inj (Option.some.inj h)
      · refine And.intro (fun _ => ?_) (fun hn => absurd c30 hn)
        refine H [((2, 0, 0, 0, []), 1), ((23, 159, 0, 0, [(0, 84)]), 3), ((12, 0, 92, 0, []), 3)] 145 _ _ _ (by decide +kernel) ?_
        obtain ⟨⟨vq31, σq31⟩, hq31, h⟩ := px_bind h
        dsimp only at h
        refine Exists.intro 1 (Exists.intro vq31 (Exists.intro σq31 (And.intro (Nat.le_of_ble_eq_true rfl) (And.intro (ok_M_endsPiece_84 hq31) ?_))))
        exact ih  _ h
    · refine And.intro (fun _ => ?_) (fun hn => absurd c16 hn)
      refine H [((2, 0, 0, 0, []), 1), ((23, 144, 0, 1, [(0, 84)]), 3), ((0, 0, 0, 38, []), 2), ((13, 0, 180, 0, []), 3), ((2, 0, 0, 0, []), 1), ((23, 144, 0, 1, [(0, 84)]), 3), ((0, 0, 0, 124, []), 2), ((13, 0, 180, 0, []), 3), ((2, 0, 0, 0, []), 1), ((0, 0, 0, 1, []), 1), ((2, 0, 0, 0, []), 1), ((16, 84, 19, 0, []), 3), ((23, 145, 2, 1, [(0, 84)]), 3), ((27, 1, 0, 0, []), 1)] 152 _ _ _ (by decide +kernel) ?_
      obtain ⟨⟨vq17, σq17⟩, hq17, h⟩ := px_bind h
      dsimp only at h
      refine Exists.intro 0 (Exists.intro vq17 (Exists.intro σq17 (And.intro (Nat.le_of_ble_eq_true rfl) (And.intro (ok_M_here_84 hq17) ?_))))
      rcases px_ite h with ⟨c18, h⟩ | ⟨c18, h⟩
      · refine And.intro (fun _ => ?_) (fun hn => absurd c18 hn)
        exact ok_M_readsCondition_84_p180 H hk_40  _ h
      · refine And.intro (fun hp => absurd hp c18) (fun _ => ?_)
        obtain ⟨⟨vq25, σq25⟩, hq25, h⟩ := px_bind h
        dsimp only at h
        refine Exists.intro 0 (Exists.intro vq25 (Exists.intro σq25 (And.intro (Nat.le_of_ble_eq_true rfl) (And.intro (ok_M_here_84 hq25) ?_))))
        rcases px_ite h with ⟨c26, h⟩ | ⟨c26, h⟩
        · refine And.intro (fun _ => ?_) (fun hn => absurd c26 hn)
          exact ok_M_readsCondition_84_p180 H hk_40  _ h
        · refine And.intro (fun hp => absurd hp c26) (fun _ => ?_)
          obtain ⟨⟨vq27, σq27⟩, hq27, h⟩ := px_bind h
          dsimp only at h
          refine Exists.intro 0 (Exists.intro vq27 (Exists.intro σq27 (And.intro (Nat.le_of_ble_eq_true rfl) (And.intro (ok_M_wrongAt_84 hq27) ?_))))
          obtain ⟨g28, h⟩ := px_gd h
          refine And.intro g28 ?_
          exact Prod.mk.inj (Option.some.inj h)
theorem ok_M_readsCondition_84_p40 {l : Launch} {rv : Int} {rσ : pS} {G : Nat → pL → List pV → pS → Prop} (H : px_R l 6 157 rv rσ G) : ∀ (n : Nat) (σ : pS), f_M_readsCondition_84_p40 n  σ = some (rv, rσ) → G 40 [some (.inr 84)] [] σ := by
  intro n
  induction n with
  | zero =>
    intro  σ h
    unfold f_M_readsCondition_84_p40 at h
    cases h
  | succ n ih =>
    intro  σ h
    unfold f_M_readsCondition_84_p40 at h
    refine H [((2, 0, 0, 0, []), 1), ((23, 144, 0, 1, [(0, 84)]), 3), ((0, 0, 0, 33, []), 2), ((13, 0, 58, 0, []), 3), ((2, 0, 0, 0, []), 1), ((23, 144, 0, 1, [(0, 84)]), 3), ((0, 0, 0, 40, []), 2), ((13, 1, 83, 0, []), 3)] 40 _ _ _ (by decide +kernel) ?_
    obtain ⟨⟨vq5, σq5⟩, hq5, h⟩ := px_bind h
    dsimp only at h
    refine Exists.intro 0 (Exists.intro vq5 (Exists.intro σq5 (And.intro (Nat.le_of_ble_eq_true rfl) (And.intro (ok_M_here_84 hq5) ?_))))
    rcases px_ite h with ⟨c6, h⟩ | ⟨c6, h⟩
    · refine And.intro (fun _ => ?_) (fun hn => absurd c6 hn)
      exact ok_M_readsCondition_84_p58 H ih  _ h
    · refine And.intro (fun hp => absurd hp c6) (fun _ => ?_)
      obtain ⟨⟨vq11, σq11⟩, hq11, h⟩ := px_bind h
      dsimp only at h
      refine Exists.intro 0 (Exists.intro vq11 (Exists.intro σq11 (And.intro (Nat.le_of_ble_eq_true rfl) (And.intro (ok_M_here_84 hq11) ?_))))
      rcases px_ite h with ⟨c12, h⟩ | ⟨c12, h⟩
      · refine And.intro (fun hp => absurd c12 hp) (fun _ => ?_)
        exact ok_M_readsCondition_84_p58 H ih  _ h
      · refine And.intro (fun _ => ?_) (fun hn => absurd c12 hn)
        refine H [((2, 0, 0, 0, []), 1), ((23, 158, 0, 1, [(0, 84)]), 3), ((14, 1, 92, 0, []), 3), ((0, 0, 0, 0, []), 1), ((27, 1, 0, 0, []), 1)] 83 _ _ _ (by decide +kernel) ?_
        obtain ⟨⟨vq13, σq13⟩, hq13, h⟩ := px_bind h
        dsimp only at h
        refine Exists.intro 5 (Exists.intro vq13 (Exists.intro σq13 (And.intro (Nat.le_of_ble_eq_true rfl) (And.intro (ok_M_readsCompared_84 hq13) ?_))))
        rcases px_ite h with ⟨c14, h⟩ | ⟨c14, h⟩
        · refine And.intro (fun hp => absurd c14 hp) (fun _ => ?_)
          refine And.intro (show (0 : Int) ≤ 0 ∧ (0 : Int) ≤ 1 from by decide) ?_
          exact Prod.mk.inj (Option.some.inj h)
        · refine And.intro (fun _ => ?_) (fun hn => absurd c14 hn)
          exact ok_M_readsCondition_84_p92 H ih _  _ h
theorem ok_M_readsCondition_84_w {l : Launch} {rv : Int} {rσ : pS} {G : Nat → pL → List pV → pS → Prop} (H : px_R l 6 157 rv rσ G) : ∀ (σ : pS), f_M_readsCondition_84  σ = some (rv, rσ) → G 0 [some (.inr 84)] [] σ := by
  intro  σ h
  unfold f_M_readsCondition_84 at h
  refine H [((2, 0, 0, 0, []), 1), ((23, 144, 0, 1, [(0, 84)]), 3), ((0, 0, 0, 40, []), 2), ((13, 0, 19, 0, []), 3), ((2, 0, 0, 0, []), 1), ((0, 0, 0, 1, []), 1), ((2, 0, 0, 0, []), 1), ((16, 84, 19, 0, []), 3), ((23, 145, 2, 1, [(0, 84)]), 3), ((27, 1, 0, 0, []), 1)] 0 _ _ _ (by decide +kernel) ?_
  obtain ⟨⟨vq1, σq1⟩, hq1, h⟩ := px_bind h
  dsimp only at h
  refine Exists.intro 0 (Exists.intro vq1 (Exists.intro σq1 (And.intro (Nat.le_of_ble_eq_true rfl) (And.intro (ok_M_here_84 hq1) ?_))))
  rcases px_ite h with ⟨c2, h⟩ | ⟨c2, h⟩
  · refine And.intro (fun _ => ?_) (fun hn => absurd c2 hn)
    refine H [((2, 0, 0, 0, []), 1), ((0, 0, 0, 0, []), 1), ((18, 84, 23, 0, []), 3), ((2, 0, 0, 0, []), 1), ((0, 0, 0, 0, []), 1), ((18, 84, 25, 0, []), 3), ((2, 0, 0, 0, []), 1), ((0, 0, 0, 13, []), 2), ((23, 148, 1, 1, [(0, 84)]), 3), ((14, 1, 40, 0, []), 3), ((0, 0, 0, 0, []), 1), ((27, 1, 0, 0, []), 1)] 19 _ _ _ (by decide +kernel) ?_
    obtain ⟨⟨vq3, σq3⟩, hq3, h⟩ := px_bind h
    dsimp only at h
    refine Exists.intro 1 (Exists.intro vq3 (Exists.intro σq3 (And.intro (Nat.le_of_ble_eq_true rfl) (And.intro (ok_M_opens_84 hq3) ?_))))
    rcases px_ite h with ⟨c4, h⟩ | ⟨c4, h⟩
    · refine And.intro (fun hp => absurd c4 hp) (fun _ => ?_)
      refine And.intro (show (0 : Int) ≤ 0 ∧ (0 : Int) ≤ 1 from by decide) ?_
      exact Prod.mk.inj (Option.some.inj h)
    · refine And.intro (fun _ => ?_) (fun hn => absurd c4 hn)
      exact ok_M_readsCondition_84_p40 H _  _ h
  · refine And.intro (fun hp => absurd hp c2) (fun _ => ?_)
    obtain ⟨⟨vq32, σq32⟩, hq32, h⟩ := px_bind h
    dsimp only at h
    refine Exists.intro 0 (Exists.intro vq32 (Exists.intro σq32 (And.intro (Nat.le_of_ble_eq_true rfl) (And.intro (ok_M_wrongAt_84 hq32) ?_))))
    obtain ⟨g33, h⟩ := px_gd h
    refine And.intro g33 ?_
    exact Prod.mk.inj (Option.some.inj h)
theorem ok_M_readsCondition_84 {l : Launch} {σ : pS} {v : Int} {σ1 : pS} (h : f_M_readsCondition_84  σ = some (v, σ1)) : Con l 6 157 [.inr 84] σ v σ1 := Con_mk 1 1 rfl (by decide +kernel) (fun _ H => ok_M_readsCondition_84_w H  _ h)
def f_M_readsRule_84_p104 (σ : pS) : Option (Int × pS) := if 0 ≤ (σ 84 26) ∧ (σ 84 26) < 16 then ((f_M_readsCondition_84  (pU σ 101 ((σ 84 26).toNat) (σ 84 24))).bind fun q8 => (if q8.1 = 0 then (some (0, q8.2)) else (if 0 ≤ (q8.2 84 26) ∧ (q8.2 84 26) < 16 then (some (1, pU (pU q8.2 102 ((q8.2 84 26).toNat) (q8.2 84 24)) 84 26 (pw ((q8.2 84 26) + 1)))) else none))) else none
def f_M_readsRule_84_p27 (a1 : Int) (σ : pS) : Option (Int × pS) := if (σ 84 26) = 16 then ((f_M_wrongAt_84 4 (σ 84 19) σ).bind fun q13 => (if 0 ≤ q13.1 ∧ q13.1 ≤ 1 then (some (q13.1, q13.2)) else none)) else (if 0 ≤ (σ 84 26) ∧ (σ 84 26) < 16 then (if 0 ≤ (σ 84 26) ∧ (σ 84 26) < 16 then (if a1 = 120 then (f_M_readsRule_84_p104  (pU (pU (pU (pU (pU σ 99 ((σ 84 26).toNat) a1) 84 19 (pw ((σ 84 19) + 1))) 100 ((σ 84 26).toNat) (σ 84 24)) 84 23 0) 84 25 0)) else ((f_M_readsSum_84  (pU (pU (pU (pU (pU σ 99 ((σ 84 26).toNat) a1) 84 19 (pw ((σ 84 19) + 1))) 100 ((σ 84 26).toNat) (σ 84 24)) 84 23 0) 84 25 0)).bind fun q11 => (if q11.1 = 0 then (some (0, q11.2)) else (f_M_readsRule_84_p104  q11.2)))) else none) else none)
def f_M_readsRule_84 (σ : pS) : Option (Int × pS) := (f_M_here_84  σ).bind fun q1 => (if q1.1 = 100 then (f_M_readsRule_84_p27 q1.1 q1.2) else (if q1.1 = 120 then (f_M_readsRule_84_p27 q1.1 q1.2) else ((f_M_wrongAt_84 1 (q1.2 84 19) q1.2).bind fun q16 => (if 0 ≤ q16.1 ∧ q16.1 ≤ 1 then (some (q16.1, q16.2)) else none))))
theorem ok_M_readsRule_84_p104 {l : Launch} {rv : Int} {rσ : pS} {G : Nat → pL → List pV → pS → Prop} (H : px_R l 7 143 rv rσ G) : ∀ (σ : pS), f_M_readsRule_84_p104  σ = some (rv, rσ) → G 104 [some (.inr 84), none] [] σ := by
  intro  σ h
  unfold f_M_readsRule_84_p104 at h
  refine H [((2, 0, 0, 0, []), 1), ((17, 84, 101, 0, []), 3), ((2, 0, 0, 0, []), 1), ((16, 84, 26, 0, []), 3), ((2, 0, 0, 0, []), 1), ((16, 84, 24, 0, []), 3), ((20, 101, 16, 0, []), 1), ((2, 0, 0, 0, []), 1), ((23, 157, 0, 1, [(0, 84)]), 3), ((14, 1, 126, 0, []), 3), ((0, 0, 0, 0, []), 1), ((27, 1, 0, 0, []), 1)] 104 _ _ _ (by decide +kernel) ?_
  obtain ⟨g7, h⟩ := px_gd h
  refine And.intro g7 ?_
  obtain ⟨⟨vq8, σq8⟩, hq8, h⟩ := px_bind h
  dsimp only at h
  refine Exists.intro 6 (Exists.intro vq8 (Exists.intro σq8 (And.intro (Nat.le_of_ble_eq_true rfl) (And.intro (ok_M_readsCondition_84 hq8) ?_))))
  rcases px_ite h with ⟨c9, h⟩ | ⟨c9, h⟩
  · refine And.intro (fun hp => absurd c9 hp) (fun _ => ?_)
    refine And.intro (show (0 : Int) ≤ 0 ∧ (0 : Int) ≤ 1 from by decide) ?_
    exact Prod.mk.inj (Option.some.inj h)
  · refine And.intro (fun _ => ?_) (fun hn => absurd c9 hn)
    refine H [((2, 0, 0, 0, []), 1), ((17, 84, 102, 0, []), 3), ((2, 0, 0, 0, []), 1), ((16, 84, 26, 0, []), 3), ((2, 0, 0, 0, []), 1), ((16, 84, 24, 0, []), 3), ((20, 102, 16, 0, []), 1), ((2, 0, 0, 0, []), 1), ((2, 0, 0, 0, []), 1), ((16, 84, 26, 0, []), 3), ((0, 0, 0, 1, []), 1), ((6, 0, 0, 0, []), 1), ((18, 84, 26, 0, []), 3), ((0, 0, 0, 1, []), 1), ((27, 1, 0, 0, []), 1)] 126 _ _ _ (by decide +kernel) ?_
    obtain ⟨g10, h⟩ := px_gd h
    refine And.intro g10 ?_
    refine And.intro (show (0 : Int) ≤ 1 ∧ (1 : Int) ≤ 1 from by decide) ?_
    exact Prod.mk.inj (Option.some.inj h)
theorem ok_M_readsRule_84_p27 {l : Launch} {rv : Int} {rσ : pS} {G : Nat → pL → List pV → pS → Prop} (H : px_R l 7 143 rv rσ G) : ∀ (a1 : Int) (σ : pS), f_M_readsRule_84_p27 a1 σ = some (rv, rσ) → G 27 [some (.inr 84), some (.inl a1)] [] σ := by
  intro a1 σ h
  unfold f_M_readsRule_84_p27 at h
  refine H [((2, 0, 0, 0, []), 1), ((16, 84, 26, 0, []), 3), ((0, 0, 0, 16, []), 2), ((13, 1, 46, 0, []), 3), ((2, 0, 0, 0, []), 1), ((0, 0, 0, 4, []), 1), ((2, 0, 0, 0, []), 1), ((16, 84, 19, 0, []), 3), ((23, 145, 2, 1, [(0, 84)]), 3), ((27, 1, 0, 0, []), 1)] 27 _ _ _ (by decide +kernel) ?_
  rcases px_ite h with ⟨c3, h⟩ | ⟨c3, h⟩
  · refine And.intro (fun hp => absurd c3 hp) (fun _ => ?_)
    obtain ⟨⟨vq13, σq13⟩, hq13, h⟩ := px_bind h
    dsimp only at h
    refine Exists.intro 0 (Exists.intro vq13 (Exists.intro σq13 (And.intro (Nat.le_of_ble_eq_true rfl) (And.intro (ok_M_wrongAt_84 hq13) ?_))))
    obtain ⟨g14, h⟩ := px_gd h
    refine And.intro g14 ?_
    exact Prod.mk.inj (Option.some.inj h)
  · refine And.intro (fun _ => ?_) (fun hn => absurd c3 hn)
    refine H [((2, 0, 0, 0, []), 1), ((17, 84, 99, 0, []), 3), ((2, 0, 0, 0, []), 1), ((16, 84, 26, 0, []), 3), ((1, 1, 0, 0, []), 1), ((20, 99, 16, 0, []), 1), ((2, 0, 0, 0, []), 1), ((2, 0, 0, 0, []), 1), ((16, 84, 19, 0, []), 3), ((0, 0, 0, 1, []), 1), ((6, 0, 0, 0, []), 1), ((18, 84, 19, 0, []), 3), ((2, 0, 0, 0, []), 1), ((17, 84, 100, 0, []), 3), ((2, 0, 0, 0, []), 1), ((16, 84, 26, 0, []), 3), ((2, 0, 0, 0, []), 1), ((16, 84, 24, 0, []), 3), ((20, 100, 16, 0, []), 1), ((2, 0, 0, 0, []), 1), ((0, 0, 0, 0, []), 1), ((18, 84, 23, 0, []), 3), ((2, 0, 0, 0, []), 1), ((0, 0, 0, 0, []), 1), ((18, 84, 25, 0, []), 3), ((1, 1, 0, 0, []), 1), ((0, 0, 0, 120, []), 2), ((13, 0, 104, 0, []), 3), ((2, 0, 0, 0, []), 1), ((23, 146, 0, 1, [(0, 84)]), 3), ((14, 1, 104, 0, []), 3), ((0, 0, 0, 0, []), 1), ((27, 1, 0, 0, []), 1)] 46 _ _ _ (by decide +kernel) ?_
    obtain ⟨g4, h⟩ := px_gd h
    refine And.intro g4 ?_
    obtain ⟨g5, h⟩ := px_gd h
    refine And.intro g5 ?_
    rcases px_ite h with ⟨c6, h⟩ | ⟨c6, h⟩
    · refine And.intro (fun _ => ?_) (fun hn => absurd c6 hn)
      refine H [((29, 1, 0, 0, []), 0)] 104 _ _ _ (by decide +kernel) ?_
      exact ok_M_readsRule_84_p104 H  _ h
    · refine And.intro (fun hp => absurd hp c6) (fun _ => ?_)
      obtain ⟨⟨vq11, σq11⟩, hq11, h⟩ := px_bind h
      dsimp only at h
      refine Exists.intro 4 (Exists.intro vq11 (Exists.intro σq11 (And.intro (Nat.le_of_ble_eq_true rfl) (And.intro (ok_M_readsSum_84 hq11) ?_))))
      rcases px_ite h with ⟨c12, h⟩ | ⟨c12, h⟩
      · refine And.intro (fun hp => absurd c12 hp) (fun _ => ?_)
        refine And.intro (show (0 : Int) ≤ 0 ∧ (0 : Int) ≤ 1 from by decide) ?_
        exact Prod.mk.inj (Option.some.inj h)
      · refine And.intro (fun _ => ?_) (fun hn => absurd c12 hn)
        refine H [((29, 1, 0, 0, []), 0)] 104 _ _ _ (by decide +kernel) ?_
        exact ok_M_readsRule_84_p104 H  _ h
theorem ok_M_readsRule_84_w {l : Launch} {rv : Int} {rσ : pS} {G : Nat → pL → List pV → pS → Prop} (H : px_R l 7 143 rv rσ G) : ∀ (σ : pS), f_M_readsRule_84  σ = some (rv, rσ) → G 0 [some (.inr 84), none] [] σ := by
  intro  σ h
  unfold f_M_readsRule_84 at h
  refine H [((2, 0, 0, 0, []), 1), ((23, 144, 0, 1, [(0, 84)]), 3), ((3, 1, 0, 0, []), 1), ((1, 1, 0, 0, []), 1), ((0, 0, 0, 100, []), 2), ((13, 0, 27, 0, []), 3), ((1, 1, 0, 0, []), 1), ((0, 0, 0, 120, []), 2), ((13, 0, 27, 0, []), 3), ((2, 0, 0, 0, []), 1), ((0, 0, 0, 1, []), 1), ((2, 0, 0, 0, []), 1), ((16, 84, 19, 0, []), 3), ((23, 145, 2, 1, [(0, 84)]), 3), ((27, 1, 0, 0, []), 1)] 0 _ _ _ (by decide +kernel) ?_
  obtain ⟨⟨vq1, σq1⟩, hq1, h⟩ := px_bind h
  dsimp only at h
  refine Exists.intro 0 (Exists.intro vq1 (Exists.intro σq1 (And.intro (Nat.le_of_ble_eq_true rfl) (And.intro (ok_M_here_84 hq1) ?_))))
  rcases px_ite h with ⟨c2, h⟩ | ⟨c2, h⟩
  · refine And.intro (fun _ => ?_) (fun hn => absurd c2 hn)
    exact ok_M_readsRule_84_p27 H _ _ h
  · refine And.intro (fun hp => absurd hp c2) (fun _ => ?_)
    rcases px_ite h with ⟨c15, h⟩ | ⟨c15, h⟩
    · refine And.intro (fun _ => ?_) (fun hn => absurd c15 hn)
      exact ok_M_readsRule_84_p27 H _ _ h
    · refine And.intro (fun hp => absurd hp c15) (fun _ => ?_)
      obtain ⟨⟨vq16, σq16⟩, hq16, h⟩ := px_bind h
      dsimp only at h
      refine Exists.intro 0 (Exists.intro vq16 (Exists.intro σq16 (And.intro (Nat.le_of_ble_eq_true rfl) (And.intro (ok_M_wrongAt_84 hq16) ?_))))
      obtain ⟨g17, h⟩ := px_gd h
      refine And.intro g17 ?_
      exact Prod.mk.inj (Option.some.inj h)
theorem ok_M_readsRule_84 {l : Launch} {σ : pS} {v : Int} {σ1 : pS} (h : f_M_readsRule_84  σ = some (v, σ1)) : Con l 7 143 [.inr 84] σ v σ1 := Con_mk 1 2 rfl (by decide +kernel) (fun _ H => ok_M_readsRule_84_w H  _ h)
def f_M_law_84_p123 : Nat → Int → pS → Option (Int × pS)
  | 0, _, _ => none
  | n + 1, a3, σ => if (σ 84 26) ≤ a3 then (some (σ 84 26, σ)) else (if 0 ≤ a3 ∧ a3 < 16 then (if 0 ≤ a3 ∧ a3 < 16 then (if 0 ≤ a3 ∧ a3 < 16 then (if 0 ≤ a3 ∧ a3 < 16 then (if 0 ≤ a3 ∧ a3 < 16 then (if 0 ≤ a3 ∧ a3 < 16 then (if 0 ≤ a3 ∧ a3 < 16 then (if 0 ≤ a3 ∧ a3 < 16 then (f_M_law_84_p123 n (pw (a3 + 1)) (pU (pU (pU (pU σ 104 (a3.toNat) (σ 99 a3.toNat)) 105 (a3.toNat) (σ 100 a3.toNat)) 106 (a3.toNat) (σ 101 a3.toNat)) 107 (a3.toNat) (σ 102 a3.toNat))) else none) else none) else none) else none) else none) else none) else none) else none)
def f_M_law_84_p95 : Nat → Int → pS → Option (Int × pS)
  | 0, _, _ => none
  | n + 1, a3, σ => if (σ 84 24) ≤ a3 then (f_M_law_84_p123 4096 0 σ) else (if 0 ≤ a3 ∧ a3 < 260 then (if 0 ≤ a3 ∧ a3 < 260 then (f_M_law_84_p95 n (pw (a3 + 1)) (pU σ 103 (a3.toNat) (σ 97 a3.toNat))) else none) else none)
def f_M_law_84_p71 (a2 : Int) (σ : pS) : Option (Int × pS) := if a2 = 0 then (some (σ 84 21, pU σ 84 18 0)) else (f_M_law_84_p95 4096 0 (pU (pU σ 84 18 0) 84 27 (σ 84 26)))
def f_M_law_84_p31 : Nat → Int → pS → Option (Int × pS)
  | 0, _, _ => none
  | n + 1, a2, σ => if a2 = 0 then (f_M_law_84_p71 a2 σ) else (if (σ 84 20) ≤ (σ 84 19) then (f_M_law_84_p71 a2 σ) else ((f_M_takes_84 59 σ).bind fun q21 => (if q21.1 = 0 then (f_M_law_84_p31 n 0 q21.2) else ((f_M_readsRule_84  q21.2).bind fun q23 => (if q23.1 = 0 then (f_M_law_84_p31 n 0 q23.2) else (f_M_law_84_p31 n 1 q23.2))))))
def f_M_law_84 (a1 : Int) (σ : pS) : Option (Int × pS) := (f_M_in a1 1 240 σ).bind fun q1 => (if q1.1 = 0 then (some ((-1), q1.2)) else (if a1 ≤ (q1.2 84 18) then ((f_M_beginsText_84 a1 q1.2).bind fun q4 => ((f_M_readsRule_84  q4.2).bind fun q5 => (f_M_law_84_p31 4096 q5.1 q5.2))) else (some ((-1), q1.2))))
theorem ok_M_law_84_p123 {l : Launch} {rv : Int} {rσ : pS} {G : Nat → pL → List pV → pS → Prop} (H : px_R l 8 141 rv rσ G) : ∀ (n : Nat) (a3 : Int) (σ : pS), f_M_law_84_p123 n a3 σ = some (rv, rσ) → G 123 [some (.inr 84), none, none, some (.inl a3)] [] σ := by
  intro n
  induction n with
  | zero =>
    intro a3 σ h
    unfold f_M_law_84_p123 at h
    cases h
  | succ n ih =>
    intro a3 σ h
    unfold f_M_law_84_p123 at h
    refine H [((1, 3, 0, 0, []), 1), ((2, 0, 0, 0, []), 1), ((16, 84, 26, 0, []), 3), ((13, 3, 185, 0, []), 3), ((2, 0, 0, 0, []), 1), ((17, 84, 104, 0, []), 3), ((1, 3, 0, 0, []), 1), ((2, 0, 0, 0, []), 1), ((17, 84, 99, 0, []), 3), ((1, 3, 0, 0, []), 1), ((19, 99, 16, 0, []), 1), ((20, 104, 16, 0, []), 1), ((2, 0, 0, 0, []), 1), ((17, 84, 105, 0, []), 3), ((1, 3, 0, 0, []), 1), ((2, 0, 0, 0, []), 1), ((17, 84, 100, 0, []), 3), ((1, 3, 0, 0, []), 1), ((19, 100, 16, 0, []), 1), ((20, 105, 16, 0, []), 1), ((2, 0, 0, 0, []), 1), ((17, 84, 106, 0, []), 3), ((1, 3, 0, 0, []), 1), ((2, 0, 0, 0, []), 1), ((17, 84, 101, 0, []), 3), ((1, 3, 0, 0, []), 1), ((19, 101, 16, 0, []), 1), ((20, 106, 16, 0, []), 1), ((2, 0, 0, 0, []), 1), ((17, 84, 107, 0, []), 3), ((1, 3, 0, 0, []), 1), ((2, 0, 0, 0, []), 1), ((17, 84, 102, 0, []), 3), ((1, 3, 0, 0, []), 1), ((19, 102, 16, 0, []), 1), ((20, 107, 16, 0, []), 1), ((5, 3, 0, 1, []), 3), ((12, 0, 123, 0, []), 3)] 123 _ _ _ (by decide +kernel) ?_
    rcases px_ite h with ⟨c9, h⟩ | ⟨c9, h⟩
    · refine And.intro (fun _ => ?_) (fun hn => absurd c9 hn)
      refine H [((2, 0, 0, 0, []), 1), ((16, 84, 26, 0, []), 3), ((27, 0, 0, 0, []), 1)] 185 _ _ _ (by decide +kernel) ?_
      exact Prod.mk.inj (Option.some.inj h)
    · refine And.intro (fun hp => absurd hp c9) (fun _ => ?_)
      obtain ⟨g10, h⟩ := px_gd h
      refine And.intro g10 ?_
      obtain ⟨g11, h⟩ := px_gd h
      refine And.intro g11 ?_
      obtain ⟨g12, h⟩ := px_gd h
      refine And.intro g12 ?_
      obtain ⟨g13, h⟩ := px_gd h
      refine And.intro g13 ?_
      obtain ⟨g14, h⟩ := px_gd h
      refine And.intro g14 ?_
      obtain ⟨g15, h⟩ := px_gd h
      refine And.intro g15 ?_
      obtain ⟨g16, h⟩ := px_gd h
      refine And.intro g16 ?_
      obtain ⟨g17, h⟩ := px_gd h
      refine And.intro g17 ?_
      exact ih _ _ h
theorem ok_M_law_84_p95 {l : Launch} {rv : Int} {rσ : pS} {G : Nat → pL → List pV → pS → Prop} (H : px_R l 8 141 rv rσ G) : ∀ (n : Nat) (a3 : Int) (σ : pS), f_M_law_84_p95 n a3 σ = some (rv, rσ) → G 95 [some (.inr 84), none, none, some (.inl a3)] [] σ := by
  intro n
  induction n with
  | zero =>
    intro a3 σ h
    unfold f_M_law_84_p95 at h
    cases h
  | succ n ih =>
    intro a3 σ h
    unfold f_M_law_84_p95 at h
    refine H [((1, 3, 0, 0, []), 1), ((2, 0, 0, 0, []), 1), ((16, 84, 24, 0, []), 3), ((13, 3, 121, 0, []), 3), ((2, 0, 0, 0, []), 1), ((17, 84, 103, 0, []), 3), ((1, 3, 0, 0, []), 1), ((2, 0, 0, 0, []), 1), ((17, 84, 97, 0, []), 3), ((1, 3, 0, 0, []), 1), ((19, 97, 260, 0, []), 1), ((20, 103, 260, 0, []), 1), ((5, 3, 0, 1, []), 3), ((12, 0, 95, 0, []), 3)] 95 _ _ _ (by decide +kernel) ?_
    rcases px_ite h with ⟨c8, h⟩ | ⟨c8, h⟩
    · refine And.intro (fun _ => ?_) (fun hn => absurd c8 hn)
      refine H [((0, 0, 0, 0, []), 1), ((3, 3, 0, 0, []), 1)] 121 _ _ _ (by decide +kernel) ?_
      exact ok_M_law_84_p123 H _ _ _ h
    · refine And.intro (fun hp => absurd hp c8) (fun _ => ?_)
      obtain ⟨g18, h⟩ := px_gd h
      refine And.intro g18 ?_
      obtain ⟨g19, h⟩ := px_gd h
      refine And.intro g19 ?_
      exact ih _ _ h
theorem ok_M_law_84_p71 {l : Launch} {rv : Int} {rσ : pS} {G : Nat → pL → List pV → pS → Prop} (H : px_R l 8 141 rv rσ G) : ∀ (a2 : Int) (σ : pS), f_M_law_84_p71 a2 σ = some (rv, rσ) → G 71 [some (.inr 84), none, some (.inl a2), none] [] σ := by
  intro a2 σ h
  unfold f_M_law_84_p71 at h
  refine H [((2, 0, 0, 0, []), 1), ((0, 0, 0, 0, []), 1), ((18, 84, 18, 0, []), 3), ((1, 2, 0, 0, []), 1), ((14, 1, 85, 0, []), 3), ((2, 0, 0, 0, []), 1), ((16, 84, 21, 0, []), 3), ((27, 0, 0, 0, []), 1)] 71 _ _ _ (by decide +kernel) ?_
  rcases px_ite h with ⟨c7, h⟩ | ⟨c7, h⟩
  · refine And.intro (fun hp => absurd c7 hp) (fun _ => ?_)
    exact Prod.mk.inj (Option.some.inj h)
  · refine And.intro (fun _ => ?_) (fun hn => absurd c7 hn)
    refine H [((2, 0, 0, 0, []), 1), ((2, 0, 0, 0, []), 1), ((16, 84, 26, 0, []), 3), ((18, 84, 27, 0, []), 3), ((0, 0, 0, 0, []), 1), ((3, 3, 0, 0, []), 1), ((29, 2, 0, 0, []), 0)] 85 _ _ _ (by decide +kernel) ?_
    exact ok_M_law_84_p95 H _ _ _ h
theorem ok_M_law_84_p31 {l : Launch} {rv : Int} {rσ : pS} {G : Nat → pL → List pV → pS → Prop} (H : px_R l 8 141 rv rσ G) : ∀ (n : Nat) (a2 : Int) (σ : pS), f_M_law_84_p31 n a2 σ = some (rv, rσ) → G 31 [some (.inr 84), none, some (.inl a2), none] [] σ := by
  intro n
  induction n with
  | zero =>
    intro a2 σ h
    unfold f_M_law_84_p31 at h
    cases h
  | succ n ih =>
    intro a2 σ h
    unfold f_M_law_84_p31 at h
    refine H [((1, 2, 0, 0, []), 1), ((14, 0, 71, 0, []), 3), ((2, 0, 0, 0, []), 1), ((16, 84, 19, 0, []), 3), ((2, 0, 0, 0, []), 1), ((16, 84, 20, 0, []), 3), ((13, 3, 71, 0, []), 3), ((2, 0, 0, 0, []), 1), ((0, 0, 0, 59, []), 2), ((23, 162, 1, 1, [(0, 84)]), 3), ((14, 0, 66, 0, []), 3), ((2, 0, 0, 0, []), 1), ((23, 143, 0, 1, [(0, 84)]), 3), ((14, 0, 66, 0, []), 3), ((0, 0, 0, 1, []), 1), ((12, 0, 67, 0, []), 3), ((3, 2, 0, 0, []), 1), ((12, 0, 31, 0, []), 3)] 31 _ _ _ (by decide +kernel) ?_
    rcases px_ite h with ⟨c6, h⟩ | ⟨c6, h⟩
    · refine And.intro (fun _ => ?_) (fun hn => absurd c6 hn)
      exact ok_M_law_84_p71 H _ _ h
    · refine And.intro (fun hp => absurd hp c6) (fun _ => ?_)
      rcases px_ite h with ⟨c20, h⟩ | ⟨c20, h⟩
      · refine And.intro (fun _ => ?_) (fun hn => absurd c20 hn)
        exact ok_M_law_84_p71 H _ _ h
      · refine And.intro (fun hp => absurd hp c20) (fun _ => ?_)
        obtain ⟨⟨vq21, σq21⟩, hq21, h⟩ := px_bind h
        dsimp only at h
        refine Exists.intro 1 (Exists.intro vq21 (Exists.intro σq21 (And.intro (Nat.le_of_ble_eq_true rfl) (And.intro (ok_M_takes_84 hq21) ?_))))
        rcases px_ite h with ⟨c22, h⟩ | ⟨c22, h⟩
        · refine And.intro (fun _ => ?_) (fun hn => absurd c22 hn)
          refine H [((0, 0, 0, 0, []), 1), ((3, 2, 0, 0, []), 1), ((12, 0, 31, 0, []), 3)] 66 _ _ _ (by decide +kernel) ?_
          exact ih _ _ h
        · refine And.intro (fun hp => absurd hp c22) (fun _ => ?_)
          obtain ⟨⟨vq23, σq23⟩, hq23, h⟩ := px_bind h
          dsimp only at h
          refine Exists.intro 7 (Exists.intro vq23 (Exists.intro σq23 (And.intro (Nat.le_of_ble_eq_true rfl) (And.intro (ok_M_readsRule_84 hq23) ?_))))
          rcases px_ite h with ⟨c24, h⟩ | ⟨c24, h⟩
          · refine And.intro (fun _ => ?_) (fun hn => absurd c24 hn)
            refine H [((0, 0, 0, 0, []), 1), ((3, 2, 0, 0, []), 1), ((12, 0, 31, 0, []), 3)] 66 _ _ _ (by decide +kernel) ?_
            exact ih _ _ h
          · refine And.intro (fun hp => absurd hp c24) (fun _ => ?_)
            exact ih _ _ h
theorem ok_M_law_84_w {l : Launch} {rv : Int} {rσ : pS} {G : Nat → pL → List pV → pS → Prop} (H : px_R l 8 141 rv rσ G) : ∀ (a1 : Int) (σ : pS), f_M_law_84 a1 σ = some (rv, rσ) → G 0 [some (.inr 84), some (.inl a1), none, none] [] σ := by
  intro a1 σ h
  unfold f_M_law_84 at h
  refine H [((1, 1, 0, 0, []), 1), ((0, 0, 0, 1, []), 1), ((0, 0, 0, 240, []), 3), ((24, 137, 3, 1, []), 3), ((14, 0, 19, 0, []), 3), ((1, 1, 0, 0, []), 1), ((2, 0, 0, 0, []), 1), ((16, 84, 18, 0, []), 3), ((13, 5, 21, 0, []), 3), ((0, 0, 0, (-1), []), 1), ((27, 0, 0, 0, []), 1)] 0 _ _ _ (by decide +kernel) ?_
  obtain ⟨⟨vq1, σq1⟩, hq1, h⟩ := px_bind h
  dsimp only at h
  refine Exists.intro 0 (Exists.intro vq1 (Exists.intro σq1 (And.intro (Nat.le_of_ble_eq_true rfl) (And.intro (ok_M_in hq1) ?_))))
  rcases px_ite h with ⟨c2, h⟩ | ⟨c2, h⟩
  · refine And.intro (fun _ => ?_) (fun hn => absurd c2 hn)
    refine H [((0, 0, 0, (-1), []), 1), ((27, 0, 0, 0, []), 1)] 19 _ _ _ (by decide +kernel) ?_
    exact Prod.mk.inj (Option.some.inj h)
  · refine And.intro (fun hp => absurd hp c2) (fun _ => ?_)
    rcases px_ite h with ⟨c3, h⟩ | ⟨c3, h⟩
    · refine And.intro (fun _ => ?_) (fun hn => absurd c3 hn)
      refine H [((2, 0, 0, 0, []), 1), ((1, 1, 0, 0, []), 1), ((23, 142, 1, 0, [(0, 84)]), 3), ((2, 0, 0, 0, []), 1), ((23, 143, 0, 1, [(0, 84)]), 3), ((3, 2, 0, 0, []), 1), ((29, 1, 0, 0, []), 0)] 21 _ _ _ (by decide +kernel) ?_
      obtain ⟨⟨vq4, σq4⟩, hq4, h⟩ := px_bind h
      dsimp only at h
      refine Exists.intro 0 (Exists.intro vq4 (Exists.intro σq4 (And.intro (Nat.le_of_ble_eq_true rfl) (And.intro (ok_M_beginsText_84 hq4) ?_))))
      obtain ⟨⟨vq5, σq5⟩, hq5, h⟩ := px_bind h
      dsimp only at h
      refine Exists.intro 7 (Exists.intro vq5 (Exists.intro σq5 (And.intro (Nat.le_of_ble_eq_true rfl) (And.intro (ok_M_readsRule_84 hq5) ?_))))
      exact ok_M_law_84_p31 H _ _ _ h
    · refine And.intro (fun hp => absurd hp c3) (fun _ => ?_)
      exact Prod.mk.inj (Option.some.inj h)
theorem ok_M_law_84 {l : Launch} {a1 : Int} {σ : pS} {v : Int} {σ1 : pS} (h : f_M_law_84 a1 σ = some (v, σ1)) : Con l 8 141 [.inr 84, .inl a1] σ v σ1 := Con_mk 2 4 rfl (by decide +kernel) (fun _ H => ok_M_law_84_w H _ _ h)
