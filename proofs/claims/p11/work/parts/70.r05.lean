def f_M_isHeldBack_84_p2 : Nat → Int → pS → Option (Int × pS)
  | 0, _, _ => none
  | n + 1, a1, σ => if (σ 84 27) ≤ a1 then (some (0, σ)) else (if 0 ≤ a1 ∧ a1 < 16 then (if (σ 104 a1.toNat) = 120 then (if 0 ≤ a1 ∧ a1 < 16 then (if 0 ≤ a1 ∧ a1 < 16 then ((f_M_reckonsTo_84 (σ 106 a1.toNat) (σ 107 a1.toNat) σ).bind fun q6 => (if q6.1 = 1 then (some (1, q6.2)) else (f_M_isHeldBack_84_p2 n (pw (a1 + 1)) q6.2))) else none) else none) else (f_M_isHeldBack_84_p2 n (pw (a1 + 1)) σ)) else none)
def f_M_isHeldBack_84 (σ : pS) : Option (Int × pS) := f_M_isHeldBack_84_p2 4096 0 σ
theorem ok_M_isHeldBack_84_p2 {l : Launch} {rv : Int} {rσ : pS} {G : Nat → pL → List pV → pS → Prop} (H : px_R l 2 208 rv rσ G) : ∀ (n : Nat) (a1 : Int) (σ : pS), f_M_isHeldBack_84_p2 n a1 σ = some (rv, rσ) → G 2 [some (.inr 84), some (.inl a1)] [] σ := by
  intro n
  induction n with
  | zero =>
    intro a1 σ h
    unfold f_M_isHeldBack_84_p2 at h
    cases h
  | succ n ih =>
    intro a1 σ h
    unfold f_M_isHeldBack_84_p2 at h
    refine H [((1, 1, 0, 0, []), 1), ((2, 0, 0, 0, []), 1), ((16, 84, 27, 0, []), 3), ((13, 3, 49, 0, []), 3), ((2, 0, 0, 0, []), 1), ((17, 84, 104, 0, []), 3), ((1, 1, 0, 0, []), 1), ((19, 104, 16, 0, []), 1), ((0, 0, 0, 120, []), 2), ((13, 1, 43, 0, []), 3), ((2, 0, 0, 0, []), 1), ((2, 0, 0, 0, []), 1), ((17, 84, 106, 0, []), 3), ((1, 1, 0, 0, []), 1), ((19, 106, 16, 0, []), 1), ((2, 0, 0, 0, []), 1), ((17, 84, 107, 0, []), 3), ((1, 1, 0, 0, []), 1), ((19, 107, 16, 0, []), 1), ((23, 203, 2, 1, [(0, 84)]), 3), ((0, 0, 0, 1, []), 1), ((13, 1, 43, 0, []), 3), ((0, 0, 0, 1, []), 1), ((27, 1, 0, 0, []), 1)] 2 _ _ _ (by decide +kernel) ?_
    rcases px_ite h with ⟨c1, h⟩ | ⟨c1, h⟩
    · refine And.intro (fun _ => ?_) (fun hn => absurd c1 hn)
      refine H [((0, 0, 0, 0, []), 1), ((27, 1, 0, 0, []), 1)] 49 _ _ _ (by decide +kernel) ?_
      refine And.intro (show (0 : Int) ≤ 0 ∧ (0 : Int) ≤ 1 from by decide) ?_
      exact Prod.mk.inj (Option.some.inj h)
    · refine And.intro (fun hp => absurd hp c1) (fun _ => ?_)
      obtain ⟨g2, h⟩ := px_gd h
      refine And.intro g2 ?_
      rcases px_ite h with ⟨c3, h⟩ | ⟨c3, h⟩
      · refine And.intro (fun hp => absurd c3 hp) (fun _ => ?_)
        obtain ⟨g4, h⟩ := px_gd h
        refine And.intro g4 ?_
        obtain ⟨g5, h⟩ := px_gd h
        refine And.intro g5 ?_
        obtain ⟨⟨vq6, σq6⟩, hq6, h⟩ := px_bind h
        dsimp only at h
        refine Exists.intro 1 (Exists.intro vq6 (Exists.intro σq6 (And.intro (Nat.le_of_ble_eq_true rfl) (And.intro (ok_M_reckonsTo_84 hq6) ?_))))
        rcases px_ite h with ⟨c7, h⟩ | ⟨c7, h⟩
        · refine And.intro (fun hp => absurd c7 hp) (fun _ => ?_)
          refine And.intro (show (0 : Int) ≤ 1 ∧ (1 : Int) ≤ 1 from by decide) ?_
          exact Prod.mk.inj (Option.some.inj h)
        · refine And.intro (fun _ => ?_) (fun hn => absurd c7 hn)
          refine H [((5, 1, 0, 1, []), 3), ((12, 0, 2, 0, []), 3)] 43 _ _ _ (by decide +kernel) ?_
          exact ih _ _ h
      · refine And.intro (fun _ => ?_) (fun hn => absurd c3 hn)
        refine H [((5, 1, 0, 1, []), 3), ((12, 0, 2, 0, []), 3)] 43 _ _ _ (by decide +kernel) ?_
        exact ih _ _ h
theorem ok_M_isHeldBack_84_w {l : Launch} {rv : Int} {rσ : pS} {G : Nat → pL → List pV → pS → Prop} (H : px_R l 2 208 rv rσ G) : ∀ (σ : pS), f_M_isHeldBack_84  σ = some (rv, rσ) → G 0 [some (.inr 84), none] [] σ := by
  intro  σ h
  unfold f_M_isHeldBack_84 at h
  refine H [((0, 0, 0, 0, []), 1), ((3, 1, 0, 0, []), 1)] 0 _ _ _ (by decide +kernel) ?_
  exact ok_M_isHeldBack_84_p2 H _ _ _ h
theorem ok_M_isHeldBack_84 {l : Launch} {σ : pS} {v : Int} {σ1 : pS} (h : f_M_isHeldBack_84  σ = some (v, σ1)) : Con l 2 208 [.inr 84] σ v σ1 := Con_mk 1 2 rfl (by decide +kernel) (fun _ H => ok_M_isHeldBack_84_w H  _ h)
def f_M_retires_84_p68 : Nat → Int → Int → pS → Option (Int × pS)
  | 0, _, _, _ => none
  | n + 1, a2, a4, σ => if 0 ≤ a2 ∧ a2 < 20 then (if (σ 93 a2.toNat) ≤ a4 then (if 0 ≤ a2 ∧ a2 < 20 then (some (0, pU σ 126 (a2.toNat) 1)) else none) else (if 0 ≤ a2 ∧ a2 < 20 then (if 0 ≤ (pAnd (pw ((σ 121 a2.toNat) + a4)) 63) ∧ (pAnd (pw ((σ 121 a2.toNat) + a4)) 63) < 64 then (if 0 ≤ (pw ((pw (4 * a2)) + a4)) ∧ (pw ((pw (4 * a2)) + a4)) < 80 then (if 0 ≤ a2 ∧ a2 < 20 then ((f_M_byteOf (σ 120 a2.toNat) a4 (pU σ 125 ((pw ((pw (4 * a2)) + a4)).toNat) (σ 128 (pAnd (pw ((σ 121 a2.toNat) + a4)) 63).toNat))).bind fun q15 => (if 0 ≤ (pAnd (pw ((σ 121 a2.toNat) + a4)) 63) ∧ (pAnd (pw ((σ 121 a2.toNat) + a4)) 63) < 64 then (f_M_retires_84_p68 n a2 (pw (a4 + 1)) (pU q15.2 128 ((pAnd (pw ((σ 121 a2.toNat) + a4)) 63).toNat) q15.1)) else none)) else none) else none) else none) else none)) else none
def f_M_retires_84_p46 (a2 : Int) (σ : pS) : Option (Int × pS) := (f_M_undoesTo_84 (pw (a2 + 1)) σ).bind fun q5 => (if 0 ≤ a2 ∧ a2 < 20 then (if 0 ≤ a2 ∧ a2 < 20 then (f_M_retires_84_p68 4096 a2 0 (pU q5.2 132 (a2.toNat) (q5.2 121 a2.toNat))) else none) else none)
def f_M_retires_84 (a1 : Int) (σ : pS) : Option (Int × pS) := (f_M_oldestToRetire_84  σ).bind fun q1 => (if q1.1 = (-1) then (some (0, q1.2)) else ((f_M_areAllDone_84 q1.1 q1.2).bind fun q3 => (if q3.1 = 0 then ((f_M_feels_84 q1.1 a1 0 q3.2).bind fun q17 => ((f_M_isHeldBack_84  q17.2).bind fun q18 => (if q18.1 = 0 then (f_M_retires_84_p46 q1.1 (pU q18.2 84 66 (pw ((q18.2 84 66) + 1)))) else (some (0, q18.2))))) else (f_M_retires_84_p46 q1.1 q3.2))))
theorem ok_M_retires_84_p68 {l : Launch} {rv : Int} {rσ : pS} {G : Nat → pL → List pV → pS → Prop} (H : px_R l 3 205 rv rσ G) : ∀ (n : Nat) (a2 a4 : Int) (σ : pS), f_M_retires_84_p68 n a2 a4 σ = some (rv, rσ) → G 68 [some (.inr 84), none, some (.inl a2), none, some (.inl a4), none] [] σ := by
  intro n
  induction n with
  | zero =>
    intro a2 a4 σ h
    unfold f_M_retires_84_p68 at h
    cases h
  | succ n ih =>
    intro a2 a4 σ h
    unfold f_M_retires_84_p68 at h
    refine H [((1, 4, 0, 0, []), 2), ((2, 0, 0, 0, []), 1), ((17, 84, 93, 0, []), 3), ((1, 2, 0, 0, []), 1), ((19, 93, 20, 0, []), 1), ((13, 3, 135, 0, []), 3), ((2, 0, 0, 0, []), 1), ((17, 84, 121, 0, []), 3), ((1, 2, 0, 0, []), 1), ((19, 121, 20, 0, []), 1), ((1, 4, 0, 0, []), 2), ((6, 0, 0, 0, []), 1), ((0, 0, 0, 63, []), 2), ((6, 3, 0, 0, []), 1), ((3, 5, 0, 0, []), 2), ((2, 0, 0, 0, []), 1), ((17, 84, 125, 0, []), 3), ((0, 0, 0, 4, []), 1), ((1, 2, 0, 0, []), 1), ((6, 2, 0, 0, []), 1), ((1, 4, 0, 0, []), 2), ((6, 0, 0, 0, []), 1), ((2, 0, 0, 0, []), 1), ((17, 84, 128, 0, []), 3), ((1, 5, 0, 0, []), 2), ((19, 128, 64, 0, []), 1), ((20, 125, 80, 0, []), 1), ((2, 0, 0, 0, []), 1), ((17, 84, 128, 0, []), 3), ((1, 5, 0, 0, []), 2), ((2, 0, 0, 0, []), 1), ((17, 84, 120, 0, []), 3), ((1, 2, 0, 0, []), 1), ((19, 120, 20, 0, []), 1), ((1, 4, 0, 0, []), 2), ((24, 185, 2, 1, []), 3), ((20, 128, 64, 0, []), 1), ((5, 4, 0, 1, []), 3), ((12, 0, 68, 0, []), 3), ((29, 5, 0, 0, []), 0)] 68 _ _ _ (by decide +kernel) ?_
    obtain ⟨g8, h⟩ := px_gd h
    refine And.intro g8 ?_
    rcases px_ite h with ⟨c9, h⟩ | ⟨c9, h⟩
    · refine And.intro (fun _ => ?_) (fun hn => absurd c9 hn)
      refine H [((2, 0, 0, 0, []), 1), ((17, 84, 126, 0, []), 3), ((1, 2, 0, 0, []), 1), ((0, 0, 0, 1, []), 1), ((20, 126, 20, 1, []), 1), ((28, 0, 0, 0, []), 1)] 135 _ _ _ (by decide +kernel) ?_
      obtain ⟨g10, h⟩ := px_gd h
      refine And.intro g10 ?_
      refine And.intro (show (0 : Int) ≤ 1 ∧ (1 : Int) ≤ 1 from by decide) ?_
      exact (Prod.mk.inj (Option.some.inj h)).2
    · refine And.intro (fun hp => absurd hp c9) (fun _ => ?_)
      obtain ⟨g11, h⟩ := px_gd h
      refine And.intro g11 ?_
      obtain ⟨g12, h⟩ := px_gd h
      refine And.intro g12 ?_
      obtain ⟨g13, h⟩ := px_gd h
      refine And.intro g13 ?_
      obtain ⟨g14, h⟩ := px_gd h
      refine And.intro g14 ?_
      obtain ⟨⟨vq15, σq15⟩, hq15, h⟩ := px_bind h
      dsimp only at h
      refine Exists.intro 0 (Exists.intro vq15 (Exists.intro σq15 (And.intro (Nat.le_of_ble_eq_true rfl) (And.intro (ok_M_byteOf hq15) ?_))))
      obtain ⟨g16, h⟩ := px_gd h
      refine And.intro g16 ?_
      exact ih _ _ _ h
theorem ok_M_retires_84_p46 {l : Launch} {rv : Int} {rσ : pS} {G : Nat → pL → List pV → pS → Prop} (H : px_R l 3 205 rv rσ G) : ∀ (a2 : Int) (σ : pS), f_M_retires_84_p46 a2 σ = some (rv, rσ) → G 46 [some (.inr 84), none, some (.inl a2), none, none, none] [] σ := by
  intro a2 σ h
  unfold f_M_retires_84_p46 at h
  refine H [((2, 0, 0, 0, []), 1), ((1, 2, 0, 0, []), 1), ((0, 0, 0, 1, []), 1), ((6, 0, 0, 0, []), 1), ((23, 196, 1, 0, [(0, 84)]), 3), ((2, 0, 0, 0, []), 1), ((17, 84, 132, 0, []), 3), ((1, 2, 0, 0, []), 1), ((2, 0, 0, 0, []), 1), ((17, 84, 121, 0, []), 3), ((1, 2, 0, 0, []), 1), ((19, 121, 20, 0, []), 1), ((20, 132, 20, 0, []), 1), ((0, 0, 0, 0, []), 1), ((3, 4, 0, 0, []), 2)] 46 _ _ _ (by decide +kernel) ?_
  obtain ⟨⟨vq5, σq5⟩, hq5, h⟩ := px_bind h
  dsimp only at h
  refine Exists.intro 0 (Exists.intro vq5 (Exists.intro σq5 (And.intro (Nat.le_of_ble_eq_true rfl) (And.intro (ok_M_undoesTo_84 hq5) ?_))))
  obtain ⟨g6, h⟩ := px_gd h
  refine And.intro g6 ?_
  obtain ⟨g7, h⟩ := px_gd h
  refine And.intro g7 ?_
  exact ok_M_retires_84_p68 H _ _ _ _ h
theorem ok_M_retires_84_w {l : Launch} {rv : Int} {rσ : pS} {G : Nat → pL → List pV → pS → Prop} (H : px_R l 3 205 rv rσ G) : ∀ (a1 : Int) (σ : pS), f_M_retires_84 a1 σ = some (rv, rσ) → G 0 [some (.inr 84), some (.inl a1), none, none, none, none] [] σ := by
  intro a1 σ h
  unfold f_M_retires_84 at h
  refine H [((2, 0, 0, 0, []), 1), ((23, 206, 0, 1, [(0, 84)]), 3), ((3, 2, 0, 0, []), 1), ((1, 2, 0, 0, []), 1), ((0, 0, 0, (-1), []), 1), ((13, 1, 11, 0, []), 3), ((28, 0, 0, 0, []), 1)] 0 _ _ _ (by decide +kernel) ?_
  obtain ⟨⟨vq1, σq1⟩, hq1, h⟩ := px_bind h
  dsimp only at h
  refine Exists.intro 0 (Exists.intro vq1 (Exists.intro σq1 (And.intro (Nat.le_of_ble_eq_true rfl) (And.intro (ok_M_oldestToRetire_84 hq1) ?_))))
  rcases px_ite h with ⟨c2, h⟩ | ⟨c2, h⟩
  · refine And.intro (fun hp => absurd c2 hp) (fun _ => ?_)
    exact (Prod.mk.inj (Option.some.inj h)).2
  · refine And.intro (fun _ => ?_) (fun hn => absurd c2 hn)
    refine H [((2, 0, 0, 0, []), 1), ((1, 2, 0, 0, []), 1), ((23, 207, 1, 1, [(0, 84)]), 3), ((3, 3, 0, 0, []), 1), ((1, 3, 0, 0, []), 1), ((14, 1, 46, 0, []), 3), ((2, 0, 0, 0, []), 1), ((1, 2, 0, 0, []), 1), ((1, 1, 0, 0, []), 1), ((0, 0, 0, 0, []), 1), ((23, 201, 3, 0, [(0, 84)]), 3), ((2, 0, 0, 0, []), 1), ((23, 208, 0, 1, [(0, 84)]), 3), ((14, 0, 36, 0, []), 3), ((28, 0, 0, 0, []), 1)] 11 _ _ _ (by decide +kernel) ?_
    obtain ⟨⟨vq3, σq3⟩, hq3, h⟩ := px_bind h
    dsimp only at h
    refine Exists.intro 0 (Exists.intro vq3 (Exists.intro σq3 (And.intro (Nat.le_of_ble_eq_true rfl) (And.intro (ok_M_areAllDone_84 hq3) ?_))))
    rcases px_ite h with ⟨c4, h⟩ | ⟨c4, h⟩
    · refine And.intro (fun hp => absurd c4 hp) (fun _ => ?_)
      obtain ⟨⟨vq17, σq17⟩, hq17, h⟩ := px_bind h
      dsimp only at h
      refine Exists.intro 0 (Exists.intro vq17 (Exists.intro σq17 (And.intro (Nat.le_of_ble_eq_true rfl) (And.intro (ok_M_feels_84 hq17) ?_))))
      obtain ⟨⟨vq18, σq18⟩, hq18, h⟩ := px_bind h
      dsimp only at h
      refine Exists.intro 2 (Exists.intro vq18 (Exists.intro σq18 (And.intro (Nat.le_of_ble_eq_true rfl) (And.intro (ok_M_isHeldBack_84 hq18) ?_))))
      rcases px_ite h with ⟨c19, h⟩ | ⟨c19, h⟩
      · refine And.intro (fun _ => ?_) (fun hn => absurd c19 hn)
        refine H [((2, 0, 0, 0, []), 1), ((2, 0, 0, 0, []), 1), ((16, 84, 66, 0, []), 3), ((0, 0, 0, 1, []), 1), ((6, 0, 0, 0, []), 1), ((18, 84, 66, 0, []), 3), ((29, 1, 0, 0, []), 0), ((29, 3, 0, 0, []), 0)] 36 _ _ _ (by decide +kernel) ?_
        exact ok_M_retires_84_p46 H _ _ h
      · refine And.intro (fun hp => absurd hp c19) (fun _ => ?_)
        exact (Prod.mk.inj (Option.some.inj h)).2
    · refine And.intro (fun _ => ?_) (fun hn => absurd c4 hn)
      refine H [((29, 1, 0, 0, []), 0), ((29, 3, 0, 0, []), 0)] 46 _ _ _ (by decide +kernel) ?_
      exact ok_M_retires_84_p46 H _ _ h
theorem ok_M_retires_84 {l : Launch} {a1 : Int} {σ : pS} {v : Int} {σ1 : pS} (h : f_M_retires_84 a1 σ = some (v, σ1)) : Con l 3 205 [.inr 84, .inl a1] σ v σ1 := Con_mk 2 6 rfl (by decide +kernel) (fun _ H => ok_M_retires_84_w H _ _ h)
def f_M_areSourcesDone_84_p27 (k_2 : Int → Int → pS → Option (Int × pS)) (a1 a2 s0 : Int) (σ : pS) : Option (Int × pS) := if s0 = (-1) then (k_2 a1 (pw (a2 + 1)) σ) else (if 0 ≤ s0 ∧ s0 < 20 then (if (σ 118 s0.toNat) = 2 then (k_2 a1 (pw (a2 + 1)) σ) else (some (0, σ))) else none)
def f_M_areSourcesDone_84_p2 : Nat → Int → Int → pS → Option (Int × pS)
  | 0, _, _, _ => none
  | n + 1, a1, a2, σ => if 8 ≤ a2 then (some (1, σ)) else ((f_M_doesRead_84 a1 a2 σ).bind fun q2 => (if q2.1 = 0 then (f_M_areSourcesDone_84_p27 (f_M_areSourcesDone_84_p2 n) a1 a2 (-1) q2.2) else ((f_M_giverOf_84 a1 a2 q2.2).bind fun q7 => (f_M_areSourcesDone_84_p27 (f_M_areSourcesDone_84_p2 n) a1 a2 q7.1 q7.2))))
def f_M_areSourcesDone_84 (a1 : Int) (σ : pS) : Option (Int × pS) := f_M_areSourcesDone_84_p2 4096 a1 0 σ
theorem ok_M_areSourcesDone_84_p27 {l : Launch} {rv : Int} {rσ : pS} {G : Nat → pL → List pV → pS → Prop} (H : px_R l 2 197 rv rσ G) {k_2 : Int → Int → pS → Option (Int × pS)} (hk_2 : ∀ (a1 a2 : Int) (σ : pS), k_2 a1 a2 σ = some (rv, rσ) → G 2 [some (.inr 84), some (.inl a1), some (.inl a2), none] [] σ) : ∀ (a1 a2 s0 : Int) (σ : pS), f_M_areSourcesDone_84_p27 k_2 a1 a2 s0 σ = some (rv, rσ) → G 27 [some (.inr 84), some (.inl a1), some (.inl a2), none] [.inl s0] σ := by
  intro a1 a2 s0 σ h
  unfold f_M_areSourcesDone_84_p27 at h
  refine H [((3, 3, 0, 0, []), 1), ((1, 3, 0, 0, []), 1), ((0, 0, 0, (-1), []), 1), ((13, 0, 45, 0, []), 3), ((2, 0, 0, 0, []), 1), ((17, 84, 118, 0, []), 3), ((1, 3, 0, 0, []), 1), ((19, 118, 20, 0, []), 1), ((0, 0, 0, 2, []), 1), ((13, 0, 45, 0, []), 3), ((0, 0, 0, 0, []), 1), ((27, 1, 0, 0, []), 1)] 27 _ _ _ (by decide +kernel) ?_
  rcases px_ite h with ⟨c4, h⟩ | ⟨c4, h⟩
  · refine And.intro (fun _ => ?_) (fun hn => absurd c4 hn)
    refine H [((5, 2, 0, 1, []), 3), ((12, 0, 2, 0, []), 3), ((29, 3, 0, 0, []), 0)] 45 _ _ _ (by decide +kernel) ?_
    exact hk_2 _ _ _ h
  · refine And.intro (fun hp => absurd hp c4) (fun _ => ?_)
    obtain ⟨g5, h⟩ := px_gd h
    refine And.intro g5 ?_
    rcases px_ite h with ⟨c6, h⟩ | ⟨c6, h⟩
    · refine And.intro (fun _ => ?_) (fun hn => absurd c6 hn)
      refine H [((5, 2, 0, 1, []), 3), ((12, 0, 2, 0, []), 3), ((29, 3, 0, 0, []), 0)] 45 _ _ _ (by decide +kernel) ?_
      exact hk_2 _ _ _ h
    · refine And.intro (fun hp => absurd hp c6) (fun _ => ?_)
      refine And.intro (show (0 : Int) ≤ 0 ∧ (0 : Int) ≤ 1 from by decide) ?_
      exact Prod.mk.inj (Option.some.inj h)
theorem ok_M_areSourcesDone_84_p2 {l : Launch} {rv : Int} {rσ : pS} {G : Nat → pL → List pV → pS → Prop} (H : px_R l 2 197 rv rσ G) : ∀ (n : Nat) (a1 a2 : Int) (σ : pS), f_M_areSourcesDone_84_p2 n a1 a2 σ = some (rv, rσ) → G 2 [some (.inr 84), some (.inl a1), some (.inl a2), none] [] σ := by
  intro n
  induction n with
  | zero =>
    intro a1 a2 σ h
    unfold f_M_areSourcesDone_84_p2 at h
    cases h
  | succ n ih =>
    intro a1 a2 σ h
    unfold f_M_areSourcesDone_84_p2 at h
    refine H [((1, 2, 0, 0, []), 1), ((0, 0, 0, 8, []), 2), ((13, 3, 51, 0, []), 3), ((2, 0, 0, 0, []), 1), ((1, 1, 0, 0, []), 1), ((1, 2, 0, 0, []), 1), ((23, 172, 2, 1, [(0, 84)]), 3), ((14, 0, 26, 0, []), 3), ((2, 0, 0, 0, []), 1), ((1, 1, 0, 0, []), 1), ((1, 2, 0, 0, []), 1), ((23, 173, 2, 1, [(0, 84)]), 3), ((12, 0, 27, 0, []), 3)] 2 _ _ _ (by decide +kernel) ?_
    rcases px_ite h with ⟨c1, h⟩ | ⟨c1, h⟩
    · refine And.intro (fun _ => ?_) (fun hn => absurd c1 hn)
      refine H [((0, 0, 0, 1, []), 1), ((27, 1, 0, 0, []), 1)] 51 _ _ _ (by decide +kernel) ?_
      refine And.intro (show (0 : Int) ≤ 1 ∧ (1 : Int) ≤ 1 from by decide) ?_
      exact Prod.mk.inj (Option.some.inj h)
    · refine And.intro (fun hp => absurd hp c1) (fun _ => ?_)
      obtain ⟨⟨vq2, σq2⟩, hq2, h⟩ := px_bind h
      dsimp only at h
      refine Exists.intro 0 (Exists.intro vq2 (Exists.intro σq2 (And.intro (Nat.le_of_ble_eq_true rfl) (And.intro (ok_M_doesRead_84 hq2) ?_))))
      rcases px_ite h with ⟨c3, h⟩ | ⟨c3, h⟩
      · refine And.intro (fun _ => ?_) (fun hn => absurd c3 hn)
        refine H [((0, 0, 0, (-1), []), 1)] 26 _ _ _ (by decide +kernel) ?_
        exact ok_M_areSourcesDone_84_p27 H ih _ _ _ _ h
      · refine And.intro (fun hp => absurd hp c3) (fun _ => ?_)
        obtain ⟨⟨vq7, σq7⟩, hq7, h⟩ := px_bind h
        dsimp only at h
        refine Exists.intro 1 (Exists.intro vq7 (Exists.intro σq7 (And.intro (Nat.le_of_ble_eq_true rfl) (And.intro (ok_M_giverOf_84 hq7) ?_))))
        exact ok_M_areSourcesDone_84_p27 H ih _ _ _ _ h
theorem ok_M_areSourcesDone_84_w {l : Launch} {rv : Int} {rσ : pS} {G : Nat → pL → List pV → pS → Prop} (H : px_R l 2 197 rv rσ G) : ∀ (a1 : Int) (σ : pS), f_M_areSourcesDone_84 a1 σ = some (rv, rσ) → G 0 [some (.inr 84), some (.inl a1), none, none] [] σ := by
  intro a1 σ h
  unfold f_M_areSourcesDone_84 at h
  refine H [((0, 0, 0, 0, []), 1), ((3, 2, 0, 0, []), 1)] 0 _ _ _ (by decide +kernel) ?_
  exact ok_M_areSourcesDone_84_p2 H _ _ _ _ h
theorem ok_M_areSourcesDone_84 {l : Launch} {a1 : Int} {σ : pS} {v : Int} {σ1 : pS} (h : f_M_areSourcesDone_84 a1 σ = some (v, σ1)) : Con l 2 197 [.inr 84, .inl a1] σ v σ1 := Con_mk 2 4 rfl (by decide +kernel) (fun _ H => ok_M_areSourcesDone_84_w H _ _ h)
def f_M_areStoresDone_84_p2 : Nat → Int → Int → pS → Option (Int × pS)
  | 0, _, _, _ => none
  | n + 1, a1, a2, σ => if a1 ≤ a2 then (some (1, σ)) else (if 0 ≤ a2 ∧ a2 < 20 then (if (σ 88 a2.toNat) = 3 then (if 0 ≤ a2 ∧ a2 < 20 then (if (σ 118 a2.toNat) = 2 then (f_M_areStoresDone_84_p2 n a1 (pw (a2 + 1)) σ) else (some (0, σ))) else none) else (f_M_areStoresDone_84_p2 n a1 (pw (a2 + 1)) σ)) else none)
def f_M_areStoresDone_84 (a1 : Int) (σ : pS) : Option (Int × pS) := f_M_areStoresDone_84_p2 4096 a1 0 σ
theorem ok_M_areStoresDone_84_p2 {l : Launch} {rv : Int} {rσ : pS} {G : Nat → pL → List pV → pS → Prop} (H : px_R l 0 199 rv rσ G) : ∀ (n : Nat) (a1 a2 : Int) (σ : pS), f_M_areStoresDone_84_p2 n a1 a2 σ = some (rv, rσ) → G 2 [some (.inr 84), some (.inl a1), some (.inl a2)] [] σ := by
  intro n
  induction n with
  | zero =>
    intro a1 a2 σ h
    unfold f_M_areStoresDone_84_p2 at h
    cases h
  | succ n ih =>
    intro a1 a2 σ h
    unfold f_M_areStoresDone_84_p2 at h
    refine H [((1, 2, 0, 0, []), 1), ((1, 1, 0, 0, []), 1), ((13, 3, 35, 0, []), 3), ((2, 0, 0, 0, []), 1), ((17, 84, 88, 0, []), 3), ((1, 2, 0, 0, []), 1), ((19, 88, 20, 0, []), 1), ((0, 0, 0, 3, []), 1), ((13, 1, 29, 0, []), 3), ((2, 0, 0, 0, []), 1), ((17, 84, 118, 0, []), 3), ((1, 2, 0, 0, []), 1), ((19, 118, 20, 0, []), 1), ((0, 0, 0, 2, []), 1), ((13, 0, 29, 0, []), 3), ((0, 0, 0, 0, []), 1), ((27, 1, 0, 0, []), 1)] 2 _ _ _ (by decide +kernel) ?_
    rcases px_ite h with ⟨c1, h⟩ | ⟨c1, h⟩
    · refine And.intro (fun _ => ?_) (fun hn => absurd c1 hn)
      refine H [((0, 0, 0, 1, []), 1), ((27, 1, 0, 0, []), 1)] 35 _ _ _ (by decide +kernel) ?_
      refine And.intro (show (0 : Int) ≤ 1 ∧ (1 : Int) ≤ 1 from by decide) ?_
      exact Prod.mk.inj (Option.some.inj h)
    · refine And.intro (fun hp => absurd hp c1) (fun _ => ?_)
      obtain ⟨g2, h⟩ := px_gd h
      refine And.intro g2 ?_
      rcases px_ite h with ⟨c3, h⟩ | ⟨c3, h⟩
      · refine And.intro (fun hp => absurd c3 hp) (fun _ => ?_)
        obtain ⟨g4, h⟩ := px_gd h
        refine And.intro g4 ?_
        rcases px_ite h with ⟨c5, h⟩ | ⟨c5, h⟩
        · refine And.intro (fun _ => ?_) (fun hn => absurd c5 hn)
          refine H [((5, 2, 0, 1, []), 3), ((12, 0, 2, 0, []), 3)] 29 _ _ _ (by decide +kernel) ?_
          exact ih _ _ _ h
        · refine And.intro (fun hp => absurd hp c5) (fun _ => ?_)
          refine And.intro (show (0 : Int) ≤ 0 ∧ (0 : Int) ≤ 1 from by decide) ?_
          exact Prod.mk.inj (Option.some.inj h)
      · refine And.intro (fun _ => ?_) (fun hn => absurd c3 hn)
        refine H [((5, 2, 0, 1, []), 3), ((12, 0, 2, 0, []), 3)] 29 _ _ _ (by decide +kernel) ?_
        exact ih _ _ _ h
theorem ok_M_areStoresDone_84_w {l : Launch} {rv : Int} {rσ : pS} {G : Nat → pL → List pV → pS → Prop} (H : px_R l 0 199 rv rσ G) : ∀ (a1 : Int) (σ : pS), f_M_areStoresDone_84 a1 σ = some (rv, rσ) → G 0 [some (.inr 84), some (.inl a1), none] [] σ := by
  intro a1 σ h
  unfold f_M_areStoresDone_84 at h
  refine H [((0, 0, 0, 0, []), 1), ((3, 2, 0, 0, []), 1)] 0 _ _ _ (by decide +kernel) ?_
  exact ok_M_areStoresDone_84_p2 H _ _ _ _ h
theorem ok_M_areStoresDone_84 {l : Launch} {a1 : Int} {σ : pS} {v : Int} {σ1 : pS} (h : f_M_areStoresDone_84 a1 σ = some (v, σ1)) : Con l 0 199 [.inr 84, .inl a1] σ v σ1 := Con_mk 2 3 rfl (by decide +kernel) (fun _ H => ok_M_areStoresDone_84_w H _ _ h)
def f_M_isKeptBack_84_p47 : Nat → Int → Int → pS → Option (Int × pS)
  | 0, _, _, _ => none
  | n + 1, a1, a2, σ => if a2 < 0 then (some (0, σ)) else (if 0 ≤ a2 ∧ a2 < 20 then (if (σ 88 a2.toNat) = 3 then (if 0 ≤ a2 ∧ a2 < 20 then (if 0 ≤ a1 ∧ a1 < 20 then (if (σ 87 a2.toNat) = (σ 87 a1.toNat) then (if 0 ≤ a2 ∧ a2 < 20 then (if (σ 118 a2.toNat) = 2 then (some (0, σ)) else (some (1, σ))) else none) else (f_M_isKeptBack_84_p47 n a1 (pw (a2 + (-1))) σ)) else none) else none) else (f_M_isKeptBack_84_p47 n a1 (pw (a2 + (-1))) σ)) else none)
def f_M_isKeptBack_84_p31 (a1 : Int) (σ : pS) : Option (Int × pS) := if 0 ≤ a1 ∧ a1 < 20 then (if (σ 87 a1.toNat) = (-1) then (some (0, σ)) else (f_M_isKeptBack_84_p47 4096 a1 (pw (a1 - 1)) σ)) else none
def f_M_isKeptBack_84 (a1 : Int) (σ : pS) : Option (Int × pS) := if (σ 84 70) = 0 then (f_M_isKeptBack_84_p31 a1 σ) else (if 0 ≤ a1 ∧ a1 < 20 then (if (σ 88 a1.toNat) = 2 then ((f_M_areStoresDone_84 a1 σ).bind fun q14 => (if q14.1 = 0 then (some (1, q14.2)) else (some (0, q14.2)))) else (f_M_isKeptBack_84_p31 a1 σ)) else none)
theorem ok_M_isKeptBack_84_p47 {l : Launch} {rv : Int} {rσ : pS} {G : Nat → pL → List pV → pS → Prop} (H : px_R l 1 198 rv rσ G) : ∀ (n : Nat) (a1 a2 : Int) (σ : pS), f_M_isKeptBack_84_p47 n a1 a2 σ = some (rv, rσ) → G 47 [some (.inr 84), some (.inl a1), some (.inl a2)] [] σ := by
  intro n
  induction n with
  | zero =>
    intro a1 a2 σ h
    unfold f_M_isKeptBack_84_p47 at h
    cases h
  | succ n ih =>
    intro a1 a2 σ h
    unfold f_M_isKeptBack_84_p47 at h
    refine H [((1, 2, 0, 0, []), 1), ((14, 2, 98, 0, []), 3), ((2, 0, 0, 0, []), 1), ((17, 84, 88, 0, []), 3), ((1, 2, 0, 0, []), 1), ((19, 88, 20, 0, []), 1), ((0, 0, 0, 3, []), 1), ((13, 1, 92, 0, []), 3), ((2, 0, 0, 0, []), 1), ((17, 84, 87, 0, []), 3), ((1, 2, 0, 0, []), 1), ((19, 87, 20, 0, []), 1), ((2, 0, 0, 0, []), 1), ((17, 84, 87, 0, []), 3), ((1, 1, 0, 0, []), 1), ((19, 87, 20, 0, []), 1), ((13, 1, 92, 0, []), 3), ((2, 0, 0, 0, []), 1), ((17, 84, 118, 0, []), 3), ((1, 2, 0, 0, []), 1), ((19, 118, 20, 0, []), 1), ((0, 0, 0, 2, []), 1), ((13, 0, 90, 0, []), 3), ((0, 0, 0, 1, []), 1), ((12, 0, 91, 0, []), 3), ((27, 1, 0, 0, []), 1)] 47 _ _ _ (by decide +kernel) ?_
    rcases px_ite h with ⟨c4, h⟩ | ⟨c4, h⟩
    · refine And.intro (fun _ => ?_) (fun hn => absurd c4 hn)
      refine H [((0, 0, 0, 0, []), 1), ((27, 1, 0, 0, []), 1)] 98 _ _ _ (by decide +kernel) ?_
      refine And.intro (show (0 : Int) ≤ 0 ∧ (0 : Int) ≤ 1 from by decide) ?_
      exact Prod.mk.inj (Option.some.inj h)
    · refine And.intro (fun hp => absurd hp c4) (fun _ => ?_)
      obtain ⟨g5, h⟩ := px_gd h
      refine And.intro g5 ?_
      rcases px_ite h with ⟨c6, h⟩ | ⟨c6, h⟩
      · refine And.intro (fun hp => absurd c6 hp) (fun _ => ?_)
        obtain ⟨g7, h⟩ := px_gd h
        refine And.intro g7 ?_
        obtain ⟨g8, h⟩ := px_gd h
        refine And.intro g8 ?_
        rcases px_ite h with ⟨c9, h⟩ | ⟨c9, h⟩
        · refine And.intro (fun hp => absurd c9 hp) (fun _ => ?_)
          obtain ⟨g10, h⟩ := px_gd h
          refine And.intro g10 ?_
          rcases px_ite h with ⟨c11, h⟩ | ⟨c11, h⟩
          · refine And.intro (fun _ => ?_) (fun hn => absurd c11 hn)
            refine H [((0, 0, 0, 0, []), 1), ((27, 1, 0, 0, []), 1)] 90 _ _ _ (by decide +kernel) ?_
            refine And.intro (show (0 : Int) ≤ 0 ∧ (0 : Int) ≤ 1 from by decide) ?_
            exact Prod.mk.inj (Option.some.inj h)
          · refine And.intro (fun hp => absurd hp c11) (fun _ => ?_)
            refine And.intro (show (0 : Int) ≤ 1 ∧ (1 : Int) ≤ 1 from by decide) ?_
            exact Prod.mk.inj (Option.some.inj h)
        · refine And.intro (fun _ => ?_) (fun hn => absurd c9 hn)
          refine H [((5, 2, 0, (-1), []), 3), ((12, 0, 47, 0, []), 3)] 92 _ _ _ (by decide +kernel) ?_
          exact ih _ _ _ h
      · refine And.intro (fun _ => ?_) (fun hn => absurd c6 hn)
        refine H [((5, 2, 0, (-1), []), 3), ((12, 0, 47, 0, []), 3)] 92 _ _ _ (by decide +kernel) ?_
        exact ih _ _ _ h
theorem ok_M_isKeptBack_84_p31 {l : Launch} {rv : Int} {rσ : pS} {G : Nat → pL → List pV → pS → Prop} (H : px_R l 1 198 rv rσ G) : ∀ (a1 : Int) (σ : pS), f_M_isKeptBack_84_p31 a1 σ = some (rv, rσ) → G 31 [some (.inr 84), some (.inl a1), none] [] σ := by
  intro a1 σ h
  unfold f_M_isKeptBack_84_p31 at h
  refine H [((2, 0, 0, 0, []), 1), ((17, 84, 87, 0, []), 3), ((1, 1, 0, 0, []), 1), ((19, 87, 20, 0, []), 1), ((0, 0, 0, (-1), []), 1), ((13, 1, 43, 0, []), 3), ((0, 0, 0, 0, []), 1), ((27, 1, 0, 0, []), 1)] 31 _ _ _ (by decide +kernel) ?_
  obtain ⟨g2, h⟩ := px_gd h
  refine And.intro g2 ?_
  rcases px_ite h with ⟨c3, h⟩ | ⟨c3, h⟩
  · refine And.intro (fun hp => absurd c3 hp) (fun _ => ?_)
    refine And.intro (show (0 : Int) ≤ 0 ∧ (0 : Int) ≤ 1 from by decide) ?_
    exact Prod.mk.inj (Option.some.inj h)
  · refine And.intro (fun _ => ?_) (fun hn => absurd c3 hn)
    refine H [((1, 1, 0, 0, []), 1), ((0, 0, 0, 1, []), 1), ((6, 1, 0, 0, []), 1), ((3, 2, 0, 0, []), 1)] 43 _ _ _ (by decide +kernel) ?_
    exact ok_M_isKeptBack_84_p47 H _ _ _ _ h
theorem ok_M_isKeptBack_84_w {l : Launch} {rv : Int} {rσ : pS} {G : Nat → pL → List pV → pS → Prop} (H : px_R l 1 198 rv rσ G) : ∀ (a1 : Int) (σ : pS), f_M_isKeptBack_84 a1 σ = some (rv, rσ) → G 0 [some (.inr 84), some (.inl a1), none] [] σ := by
  intro a1 σ h
  unfold f_M_isKeptBack_84 at h
  refine H [((2, 0, 0, 0, []), 1), ((16, 84, 70, 0, []), 3), ((14, 0, 31, 0, []), 3), ((2, 0, 0, 0, []), 1), ((17, 84, 88, 0, []), 3), ((1, 1, 0, 0, []), 1), ((19, 88, 20, 0, []), 1), ((0, 0, 0, 2, []), 1), ((13, 1, 31, 0, []), 3), ((2, 0, 0, 0, []), 1), ((1, 1, 0, 0, []), 1), ((23, 199, 1, 1, [(0, 84)]), 3), ((14, 1, 29, 0, []), 3), ((0, 0, 0, 1, []), 1), ((12, 0, 30, 0, []), 3), ((27, 1, 0, 0, []), 1)] 0 _ _ _ (by decide +kernel) ?_
  rcases px_ite h with ⟨c1, h⟩ | ⟨c1, h⟩
  · refine And.intro (fun _ => ?_) (fun hn => absurd c1 hn)
    exact ok_M_isKeptBack_84_p31 H _ _ h
  · refine And.intro (fun hp => absurd hp c1) (fun _ => ?_)
    obtain ⟨g12, h⟩ := px_gd h
    refine And.intro g12 ?_
    rcases px_ite h with ⟨c13, h⟩ | ⟨c13, h⟩
    · refine And.intro (fun hp => absurd c13 hp) (fun _ => ?_)
      obtain ⟨⟨vq14, σq14⟩, hq14, h⟩ := px_bind h
      dsimp only at h
      refine Exists.intro 0 (Exists.intro vq14 (Exists.intro σq14 (And.intro (Nat.le_of_ble_eq_true rfl) (And.intro (ok_M_areStoresDone_84 hq14) ?_))))
      rcases px_ite h with ⟨c15, h⟩ | ⟨c15, h⟩
      · refine And.intro (fun hp => absurd c15 hp) (fun _ => ?_)
        refine And.intro (show (0 : Int) ≤ 1 ∧ (1 : Int) ≤ 1 from by decide) ?_
        exact Prod.mk.inj (Option.some.inj h)
      · refine And.intro (fun _ => ?_) (fun hn => absurd c15 hn)
        refine H [((0, 0, 0, 0, []), 1), ((27, 1, 0, 0, []), 1)] 29 _ _ _ (by decide +kernel) ?_
        refine And.intro (show (0 : Int) ≤ 0 ∧ (0 : Int) ≤ 1 from by decide) ?_
        exact Prod.mk.inj (Option.some.inj h)
    · refine And.intro (fun _ => ?_) (fun hn => absurd c13 hn)
      exact ok_M_isKeptBack_84_p31 H _ _ h
theorem ok_M_isKeptBack_84 {l : Launch} {a1 : Int} {σ : pS} {v : Int} {σ1 : pS} (h : f_M_isKeptBack_84 a1 σ = some (v, σ1)) : Con l 1 198 [.inr 84, .inl a1] σ v σ1 := Con_mk 2 3 rfl (by decide +kernel) (fun _ H => ok_M_isKeptBack_84_w H _ _ h)
def f_M_delayOf_84_p2 : Nat → Int → Int → pS → Option (Int × pS)
  | 0, _, _, _ => none
  | n + 1, a1, a2, σ => if (σ 84 27) ≤ a2 then (if 0 ≤ a1 ∧ a1 < 20 then (if (σ 88 a1.toNat) = 2 then (some (2, σ)) else (some (1, σ))) else none) else (if 0 ≤ a2 ∧ a2 < 16 then (if (σ 104 a2.toNat) = 100 then (if 0 ≤ a2 ∧ a2 < 16 then (if 0 ≤ a2 ∧ a2 < 16 then ((f_M_reckonsTo_84 (σ 106 a2.toNat) (σ 107 a2.toNat) σ).bind fun q8 => (if q8.1 = 1 then (if 0 ≤ a2 ∧ a2 < 16 then (if 0 ≤ a2 ∧ a2 < 16 then ((f_M_reckonsTo_84 (q8.2 105 a2.toNat) (q8.2 106 a2.toNat) q8.2).bind fun q12 => (if 1 ≤ q12.1 then (if q12.1 ≤ 20 then (some (q12.1, q12.2)) else (some (20, q12.2))) else (some (1, q12.2)))) else none) else none) else (f_M_delayOf_84_p2 n a1 (pw (a2 + 1)) q8.2))) else none) else none) else (f_M_delayOf_84_p2 n a1 (pw (a2 + 1)) σ)) else none)
def f_M_delayOf_84 (a1 : Int) (σ : pS) : Option (Int × pS) := f_M_delayOf_84_p2 4096 a1 0 σ
theorem ok_M_delayOf_84_p2 {l : Launch} {rv : Int} {rσ : pS} {G : Nat → pL → List pV → pS → Prop} (H : px_R l 2 202 rv rσ G) : ∀ (n : Nat) (a1 a2 : Int) (σ : pS), f_M_delayOf_84_p2 n a1 a2 σ = some (rv, rσ) → G 2 [some (.inr 84), some (.inl a1), some (.inl a2), none] [] σ := by
  intro n
  induction n with
  | zero =>
    intro a1 a2 σ h
    unfold f_M_delayOf_84_p2 at h
    cases h
  | succ n ih =>
    intro a1 a2 σ h
    unfold f_M_delayOf_84_p2 at h
    refine H [((1, 2, 0, 0, []), 1), ((2, 0, 0, 0, []), 1), ((16, 84, 27, 0, []), 3), ((13, 3, 89, 0, []), 3), ((2, 0, 0, 0, []), 1), ((17, 84, 104, 0, []), 3), ((1, 2, 0, 0, []), 1), ((19, 104, 16, 0, []), 1), ((0, 0, 0, 100, []), 2), ((13, 1, 83, 0, []), 3), ((2, 0, 0, 0, []), 1), ((2, 0, 0, 0, []), 1), ((17, 84, 106, 0, []), 3), ((1, 2, 0, 0, []), 1), ((19, 106, 16, 0, []), 1), ((2, 0, 0, 0, []), 1), ((17, 84, 107, 0, []), 3), ((1, 2, 0, 0, []), 1), ((19, 107, 16, 0, []), 1), ((23, 203, 2, 1, [(0, 84)]), 3), ((0, 0, 0, 1, []), 1), ((13, 0, 44, 0, []), 3), ((12, 0, 83, 0, []), 3), ((5, 2, 0, 1, []), 3), ((12, 0, 2, 0, []), 3)] 2 _ _ _ (by decide +kernel) ?_
    rcases px_ite h with ⟨c1, h⟩ | ⟨c1, h⟩
    · refine And.intro (fun _ => ?_) (fun hn => absurd c1 hn)
      refine H [((2, 0, 0, 0, []), 1), ((17, 84, 88, 0, []), 3), ((1, 1, 0, 0, []), 1), ((19, 88, 20, 0, []), 1), ((0, 0, 0, 2, []), 1), ((13, 1, 103, 0, []), 3), ((0, 0, 0, 2, []), 1), ((12, 0, 104, 0, []), 3), ((27, 0, 0, 0, []), 1)] 89 _ _ _ (by decide +kernel) ?_
      obtain ⟨g2, h⟩ := px_gd h
      refine And.intro g2 ?_
      rcases px_ite h with ⟨c3, h⟩ | ⟨c3, h⟩
      · refine And.intro (fun hp => absurd c3 hp) (fun _ => ?_)
        exact Prod.mk.inj (Option.some.inj h)
      · refine And.intro (fun _ => ?_) (fun hn => absurd c3 hn)
        refine H [((0, 0, 0, 1, []), 1), ((27, 0, 0, 0, []), 1)] 103 _ _ _ (by decide +kernel) ?_
        exact Prod.mk.inj (Option.some.inj h)
    · refine And.intro (fun hp => absurd hp c1) (fun _ => ?_)
      obtain ⟨g4, h⟩ := px_gd h
      refine And.intro g4 ?_
      rcases px_ite h with ⟨c5, h⟩ | ⟨c5, h⟩
      · refine And.intro (fun hp => absurd c5 hp) (fun _ => ?_)
        obtain ⟨g6, h⟩ := px_gd h
        refine And.intro g6 ?_
        obtain ⟨g7, h⟩ := px_gd h
        refine And.intro g7 ?_
        obtain ⟨⟨vq8, σq8⟩, hq8, h⟩ := px_bind h
        dsimp only at h
        refine Exists.intro 1 (Exists.intro vq8 (Exists.intro σq8 (And.intro (Nat.le_of_ble_eq_true rfl) (And.intro (ok_M_reckonsTo_84 hq8) ?_))))
        rcases px_ite h with ⟨c9, h⟩ | ⟨c9, h⟩
        · refine And.intro (fun _ => ?_) (fun hn => absurd c9 hn)
          refine H [((2, 0, 0, 0, []), 1), ((2, 0, 0, 0, []), 1), ((17, 84, 105, 0, []), 3), ((1, 2, 0, 0, []), 1), ((19, 105, 16, 0, []), 1), ((2, 0, 0, 0, []), 1), ((17, 84, 106, 0, []), 3), ((1, 2, 0, 0, []), 1), ((19, 106, 16, 0, []), 1), ((23, 203, 2, 1, [(0, 84)]), 3), ((3, 3, 0, 0, []), 1), ((1, 3, 0, 0, []), 1), ((0, 0, 0, 1, []), 1), ((13, 3, 70, 0, []), 3), ((0, 0, 0, 1, []), 1), ((12, 0, 82, 0, []), 3), ((27, 0, 0, 0, []), 1)] 44 _ _ _ (by decide +kernel) ?_
          obtain ⟨g10, h⟩ := px_gd h
          refine And.intro g10 ?_
          obtain ⟨g11, h⟩ := px_gd h
          refine And.intro g11 ?_
          obtain ⟨⟨vq12, σq12⟩, hq12, h⟩ := px_bind h
          dsimp only at h
          refine Exists.intro 1 (Exists.intro vq12 (Exists.intro σq12 (And.intro (Nat.le_of_ble_eq_true rfl) (And.intro (ok_M_reckonsTo_84 hq12) ?_))))
          rcases px_ite h with ⟨c13, h⟩ | ⟨c13, h⟩
          · refine And.intro (fun _ => ?_) (fun hn => absurd c13 hn)
            refine H [((1, 3, 0, 0, []), 1), ((0, 0, 0, 20, []), 2), ((13, 5, 81, 0, []), 3), ((0, 0, 0, 20, []), 2), ((12, 0, 82, 0, []), 3), ((27, 0, 0, 0, []), 1)] 70 _ _ _ (by decide +kernel) ?_
            rcases px_ite h with ⟨c14, h⟩ | ⟨c14, h⟩
            · refine And.intro (fun _ => ?_) (fun hn => absurd c14 hn)
              refine H [((1, 3, 0, 0, []), 1), ((27, 0, 0, 0, []), 1)] 81 _ _ _ (by decide +kernel) ?_
              exact Prod.mk.inj (Option.some.inj h)
            · refine And.intro (fun hp => absurd hp c14) (fun _ => ?_)
              exact Prod.mk.inj (Option.some.inj h)
          · refine And.intro (fun hp => absurd hp c13) (fun _ => ?_)
            exact Prod.mk.inj (Option.some.inj h)
        · refine And.intro (fun hp => absurd hp c9) (fun _ => ?_)
          exact ih _ _ _ h
      · refine And.intro (fun _ => ?_) (fun hn => absurd c5 hn)
        refine H [((5, 2, 0, 1, []), 3), ((12, 0, 2, 0, []), 3)] 83 _ _ _ (by decide +kernel) ?_
        exact ih _ _ _ h
theorem ok_M_delayOf_84_w {l : Launch} {rv : Int} {rσ : pS} {G : Nat → pL → List pV → pS → Prop} (H : px_R l 2 202 rv rσ G) : ∀ (a1 : Int) (σ : pS), f_M_delayOf_84 a1 σ = some (rv, rσ) → G 0 [some (.inr 84), some (.inl a1), none, none] [] σ := by
  intro a1 σ h
  unfold f_M_delayOf_84 at h
  refine H [((0, 0, 0, 0, []), 1), ((3, 2, 0, 0, []), 1)] 0 _ _ _ (by decide +kernel) ?_
  exact ok_M_delayOf_84_p2 H _ _ _ _ h
theorem ok_M_delayOf_84 {l : Launch} {a1 : Int} {σ : pS} {v : Int} {σ1 : pS} (h : f_M_delayOf_84 a1 σ = some (v, σ1)) : Con l 2 202 [.inr 84, .inl a1] σ v σ1 := Con_mk 2 4 rfl (by decide +kernel) (fun _ H => ok_M_delayOf_84_w H _ _ h)
def f_M_goesOff_84 (a1 a2 : Int) (σ : pS) : Option (Int × pS) := (f_M_feels_84 a1 a2 (pRem (pRem (pw ((pw (25173 * (σ 84 0))) + 13849)) 65536) 10) (pU σ 84 0 (pRem (pw ((pw (25173 * (σ 84 0))) + 13849)) 65536))).bind fun q3 => (if 0 ≤ a1 ∧ a1 < 20 then ((f_M_delayOf_84 a1 (pU q3.2 118 (a1.toNat) 1)).bind fun q5 => (if 0 ≤ a1 ∧ a1 < 20 then (some (0, pU q5.2 119 (a1.toNat) (pw (a2 + q5.1)))) else none)) else none)
theorem ok_M_goesOff_84_w {l : Launch} {rv : Int} {rσ : pS} {G : Nat → pL → List pV → pS → Prop} (H : px_R l 3 200 rv rσ G) : ∀ (a1 a2 : Int) (σ : pS), f_M_goesOff_84 a1 a2 σ = some (rv, rσ) → G 0 [some (.inr 84), some (.inl a1), some (.inl a2)] [] σ := by
  intro a1 a2 σ h
  unfold f_M_goesOff_84 at h
  refine H [((2, 0, 0, 0, []), 1), ((0, 0, 0, 25173, []), 3), ((2, 0, 0, 0, []), 1), ((16, 84, 0, 0, []), 3), ((6, 2, 0, 0, []), 1), ((0, 0, 0, 13849, []), 3), ((6, 0, 0, 0, []), 1), ((0, 0, 0, 65536, []), 3), ((7, 1, 0, 0, []), 1), ((18, 84, 0, 0, []), 3), ((2, 0, 0, 0, []), 1), ((1, 1, 0, 0, []), 1), ((1, 2, 0, 0, []), 1), ((2, 0, 0, 0, []), 1), ((16, 84, 0, 0, []), 3), ((0, 0, 0, 10, []), 2), ((7, 1, 0, 0, []), 1), ((23, 201, 3, 0, [(0, 84)]), 3), ((2, 0, 0, 0, []), 1), ((17, 84, 118, 0, []), 3), ((1, 1, 0, 0, []), 1), ((0, 0, 0, 1, []), 1), ((20, 118, 20, 0, []), 1), ((2, 0, 0, 0, []), 1), ((17, 84, 119, 0, []), 3), ((1, 1, 0, 0, []), 1), ((1, 2, 0, 0, []), 1), ((2, 0, 0, 0, []), 1), ((1, 1, 0, 0, []), 1), ((23, 202, 1, 1, [(0, 84)]), 3), ((6, 0, 0, 0, []), 1), ((20, 119, 20, 0, []), 1), ((28, 0, 0, 0, []), 1)] 0 _ _ _ (by decide +kernel) ?_
  refine And.intro (show (65536 : Int) ≠ 0 from by decide) (fun r1 hr1 => ?_)
  replace hr1 : r1 = pRem (pw ((pw (25173 * (σ 84 0))) + 13849)) 65536 := hr1.trans (px_dr_1 _ _)
  try rw [← hr1] at h
  refine And.intro (show (10 : Int) ≠ 0 from by decide) (fun r2 hr2 => ?_)
  replace hr2 : r2 = pRem r1 10 := hr2.trans (px_dr_1 _ _)
  try rw [← hr2] at h
  obtain ⟨⟨vq3, σq3⟩, hq3, h⟩ := px_bind h
  dsimp only at h
  refine Exists.intro 0 (Exists.intro vq3 (Exists.intro σq3 (And.intro (Nat.le_of_ble_eq_true rfl) (And.intro (ok_M_feels_84 hq3) ?_))))
  obtain ⟨g4, h⟩ := px_gd h
  refine And.intro g4 ?_
  obtain ⟨⟨vq5, σq5⟩, hq5, h⟩ := px_bind h
  dsimp only at h
  refine Exists.intro 2 (Exists.intro vq5 (Exists.intro σq5 (And.intro (Nat.le_of_ble_eq_true rfl) (And.intro (ok_M_delayOf_84 hq5) ?_))))
  obtain ⟨g6, h⟩ := px_gd h
  refine And.intro g6 ?_
  exact (Prod.mk.inj (Option.some.inj h)).2
theorem ok_M_goesOff_84 {l : Launch} {a1 a2 : Int} {σ : pS} {v : Int} {σ1 : pS} (h : f_M_goesOff_84 a1 a2 σ = some (v, σ1)) : Con l 3 200 [.inr 84, .inl a1, .inl a2] σ v σ1 := Con_mk 3 3 rfl (by decide +kernel) (fun _ H => ok_M_goesOff_84_w H _ _ _ h)
def f_M_reckoned (a0 a1 a2 : Int) (σ : pS) : Option (Int × pS) := if a0 = 38 then (some (pAnd a1 a2, σ)) else (if a0 = 42 then (some (pw (a1 * a2), σ)) else (if a0 = 43 then (some (pw (a1 + a2), σ)) else (if a0 = 45 then (some (pw (a1 - a2), σ)) else (if a0 = 94 then (some (pXor a1 a2, σ)) else (if a1 ≤ a2 then (some (0, σ)) else (some (1, σ)))))))
theorem ok_M_reckoned_w {l : Launch} {rv : Int} {rσ : pS} {G : Nat → pL → List pV → pS → Prop} (H : px_R l 0 181 rv rσ G) : ∀ (a0 a1 a2 : Int) (σ : pS), f_M_reckoned a0 a1 a2 σ = some (rv, rσ) → G 0 [some (.inl a0), some (.inl a1), some (.inl a2)] [] σ := by
  intro a0 a1 a2 σ h
  unfold f_M_reckoned at h
  refine H [((1, 0, 0, 0, []), 1), ((15, 0, 72, 0, [(38, 64), (42, 60), (43, 52), (45, 56), (94, 68)]), 51)] 0 _ _ _ (by decide +kernel) ?_
  rcases px_ite h with ⟨c1, h⟩ | ⟨c1, h⟩
  · refine And.intro (fun _ => ?_) (fun hn => absurd c1 hn)
    refine H [((1, 1, 0, 0, []), 1), ((1, 2, 0, 0, []), 1), ((6, 3, 0, 0, []), 1), ((27, 0, 0, 0, []), 1)] 64 _ _ _ (by decide +kernel) ?_
    exact Prod.mk.inj (Option.some.inj h)
  · refine And.intro (fun hp => absurd hp c1) (fun _ => ?_)
    rcases px_ite h with ⟨c2, h⟩ | ⟨c2, h⟩
    · refine And.intro (fun _ => ?_) (fun hn => absurd c2 hn)
      refine H [((1, 1, 0, 0, []), 1), ((1, 2, 0, 0, []), 1), ((6, 2, 0, 0, []), 1), ((27, 0, 0, 0, []), 1)] 60 _ _ _ (by decide +kernel) ?_
      exact Prod.mk.inj (Option.some.inj h)
    · refine And.intro (fun hp => absurd hp c2) (fun _ => ?_)
      rcases px_ite h with ⟨c3, h⟩ | ⟨c3, h⟩
      · refine And.intro (fun _ => ?_) (fun hn => absurd c3 hn)
        refine H [((1, 1, 0, 0, []), 1), ((1, 2, 0, 0, []), 1), ((6, 0, 0, 0, []), 1), ((27, 0, 0, 0, []), 1)] 52 _ _ _ (by decide +kernel) ?_
        exact Prod.mk.inj (Option.some.inj h)
      · refine And.intro (fun hp => absurd hp c3) (fun _ => ?_)
        rcases px_ite h with ⟨c4, h⟩ | ⟨c4, h⟩
        · refine And.intro (fun _ => ?_) (fun hn => absurd c4 hn)
          refine H [((1, 1, 0, 0, []), 1), ((1, 2, 0, 0, []), 1), ((6, 1, 0, 0, []), 1), ((27, 0, 0, 0, []), 1)] 56 _ _ _ (by decide +kernel) ?_
          exact Prod.mk.inj (Option.some.inj h)
        · refine And.intro (fun hp => absurd hp c4) (fun _ => ?_)
          rcases px_ite h with ⟨c5, h⟩ | ⟨c5, h⟩
          · refine And.intro (fun _ => ?_) (fun hn => absurd c5 hn)
            refine H [((1, 1, 0, 0, []), 1), ((1, 2, 0, 0, []), 1), ((6, 5, 0, 0, []), 1), ((27, 0, 0, 0, []), 1)] 68 _ _ _ (by decide +kernel) ?_
            exact Prod.mk.inj (Option.some.inj h)
          · refine And.intro (fun hp => absurd hp c5) (fun _ => ?_)
            refine H [((1, 1, 0, 0, []), 1), ((1, 2, 0, 0, []), 1), ((13, 5, 81, 0, []), 3), ((0, 0, 0, 1, []), 1), ((12, 0, 82, 0, []), 3), ((27, 0, 0, 0, []), 1)] 72 _ _ _ (by decide +kernel) ?_
            rcases px_ite h with ⟨c6, h⟩ | ⟨c6, h⟩
            · refine And.intro (fun _ => ?_) (fun hn => absurd c6 hn)
              refine H [((0, 0, 0, 0, []), 1), ((27, 0, 0, 0, []), 1)] 81 _ _ _ (by decide +kernel) ?_
              exact Prod.mk.inj (Option.some.inj h)
            · refine And.intro (fun hp => absurd hp c6) (fun _ => ?_)
              exact Prod.mk.inj (Option.some.inj h)
theorem ok_M_reckoned {l : Launch} {a0 a1 a2 : Int} {σ : pS} {v : Int} {σ1 : pS} (h : f_M_reckoned a0 a1 a2 σ = some (v, σ1)) : Con l 0 181 [.inl a0, .inl a1, .inl a2] σ v σ1 := Con_mk 3 3 rfl (by decide +kernel) (fun _ H => ok_M_reckoned_w H _ _ _ _ h)
def f_M_placeBy_84 (a1 : Int) (σ : pS) : Option (Int × pS) := if 0 ≤ a1 ∧ a1 < 20 then (if (σ 94 a1.toNat) = (-1) then (if 0 ≤ a1 ∧ a1 < 20 then (some (pAnd (pw (0 + (σ 95 a1.toNat))) 63, σ)) else none) else (if 0 ≤ a1 ∧ a1 < 20 then ((f_M_readBy_84 a1 (σ 94 a1.toNat) σ).bind fun q4 => (if 0 ≤ a1 ∧ a1 < 20 then (some (pAnd (pw (q4.1 + (q4.2 95 a1.toNat))) 63, q4.2)) else none)) else none)) else none
theorem ok_M_placeBy_84_w {l : Launch} {rv : Int} {rσ : pS} {G : Nat → pL → List pV → pS → Prop} (H : px_R l 3 182 rv rσ G) : ∀ (a1 : Int) (σ : pS), f_M_placeBy_84 a1 σ = some (rv, rσ) → G 0 [some (.inr 84), some (.inl a1), none] [] σ := by
  intro a1 σ h
  unfold f_M_placeBy_84 at h
  refine H [((2, 0, 0, 0, []), 1), ((17, 84, 94, 0, []), 3), ((1, 1, 0, 0, []), 1), ((19, 94, 20, 0, []), 1), ((0, 0, 0, (-1), []), 1), ((13, 1, 14, 0, []), 3), ((0, 0, 0, 0, []), 1), ((12, 0, 25, 0, []), 3), ((3, 2, 0, 0, []), 1), ((1, 2, 0, 0, []), 1), ((2, 0, 0, 0, []), 1), ((17, 84, 95, 0, []), 3), ((1, 1, 0, 0, []), 1), ((19, 95, 20, 0, []), 1), ((6, 0, 0, 0, []), 1), ((0, 0, 0, 63, []), 2), ((6, 3, 0, 0, []), 1), ((27, 0, 0, 0, []), 1)] 0 _ _ _ (by decide +kernel) ?_
  obtain ⟨g1, h⟩ := px_gd h
  refine And.intro g1 ?_
  rcases px_ite h with ⟨c2, h⟩ | ⟨c2, h⟩
  · refine And.intro (fun hp => absurd c2 hp) (fun _ => ?_)
    obtain ⟨g6, h⟩ := px_gd h
    refine And.intro g6 ?_
    exact Prod.mk.inj (Option.some.inj h)
  · refine And.intro (fun _ => ?_) (fun hn => absurd c2 hn)
    refine H [((2, 0, 0, 0, []), 1), ((1, 1, 0, 0, []), 1), ((2, 0, 0, 0, []), 1), ((17, 84, 94, 0, []), 3), ((1, 1, 0, 0, []), 1), ((19, 94, 20, 0, []), 1), ((23, 180, 2, 1, [(0, 84)]), 3), ((3, 2, 0, 0, []), 1), ((1, 2, 0, 0, []), 1), ((2, 0, 0, 0, []), 1), ((17, 84, 95, 0, []), 3), ((1, 1, 0, 0, []), 1), ((19, 95, 20, 0, []), 1), ((6, 0, 0, 0, []), 1), ((0, 0, 0, 63, []), 2), ((6, 3, 0, 0, []), 1), ((27, 0, 0, 0, []), 1)] 14 _ _ _ (by decide +kernel) ?_
    obtain ⟨g3, h⟩ := px_gd h
    refine And.intro g3 ?_
    obtain ⟨⟨vq4, σq4⟩, hq4, h⟩ := px_bind h
    dsimp only at h
    refine Exists.intro 2 (Exists.intro vq4 (Exists.intro σq4 (And.intro (Nat.le_of_ble_eq_true rfl) (And.intro (ok_M_readBy_84 hq4) ?_))))
    obtain ⟨g5, h⟩ := px_gd h
    refine And.intro g5 ?_
    exact Prod.mk.inj (Option.some.inj h)
theorem ok_M_placeBy_84 {l : Launch} {a1 : Int} {σ : pS} {v : Int} {σ1 : pS} (h : f_M_placeBy_84 a1 σ = some (v, σ1)) : Con l 3 182 [.inr 84, .inl a1] σ v σ1 := Con_mk 2 3 rfl (by decide +kernel) (fun _ H => ok_M_placeBy_84_w H _ _ h)
def f_M_covers_84 (a1 a2 : Int) (σ : pS) : Option (Int × pS) := if 0 ≤ a1 ∧ a1 < 20 then (if 0 ≤ a1 ∧ a1 < 20 then (if (σ 93 a1.toNat) ≤ (pAnd (pw (a2 - (σ 121 a1.toNat))) 63) then (some (0, σ)) else (some (1, σ))) else none) else none
theorem ok_M_covers_84_w {l : Launch} {rv : Int} {rσ : pS} {G : Nat → pL → List pV → pS → Prop} (H : px_R l 0 184 rv rσ G) : ∀ (a1 a2 : Int) (σ : pS), f_M_covers_84 a1 a2 σ = some (rv, rσ) → G 0 [some (.inr 84), some (.inl a1), some (.inl a2)] [] σ := by
  intro a1 a2 σ h
  unfold f_M_covers_84 at h
  refine H [((1, 2, 0, 0, []), 1), ((2, 0, 0, 0, []), 1), ((17, 84, 121, 0, []), 3), ((1, 1, 0, 0, []), 1), ((19, 121, 20, 0, []), 1), ((6, 1, 0, 0, []), 1), ((0, 0, 0, 63, []), 2), ((6, 3, 0, 0, []), 1), ((2, 0, 0, 0, []), 1), ((17, 84, 93, 0, []), 3), ((1, 1, 0, 0, []), 1), ((19, 93, 20, 0, []), 1), ((13, 3, 24, 0, []), 3), ((0, 0, 0, 1, []), 1), ((12, 0, 25, 0, []), 3), ((27, 1, 0, 0, []), 1)] 0 _ _ _ (by decide +kernel) ?_
  obtain ⟨g1, h⟩ := px_gd h
  refine And.intro g1 ?_
  obtain ⟨g2, h⟩ := px_gd h
  refine And.intro g2 ?_
  rcases px_ite h with ⟨c3, h⟩ | ⟨c3, h⟩
  · refine And.intro (fun _ => ?_) (fun hn => absurd c3 hn)
    refine H [((0, 0, 0, 0, []), 1), ((27, 1, 0, 0, []), 1)] 24 _ _ _ (by decide +kernel) ?_
    refine And.intro (show (0 : Int) ≤ 0 ∧ (0 : Int) ≤ 1 from by decide) ?_
    exact Prod.mk.inj (Option.some.inj h)
  · refine And.intro (fun hp => absurd hp c3) (fun _ => ?_)
    refine And.intro (show (0 : Int) ≤ 1 ∧ (1 : Int) ≤ 1 from by decide) ?_
    exact Prod.mk.inj (Option.some.inj h)
theorem ok_M_covers_84 {l : Launch} {a1 a2 : Int} {σ : pS} {v : Int} {σ1 : pS} (h : f_M_covers_84 a1 a2 σ = some (v, σ1)) : Con l 0 184 [.inr 84, .inl a1, .inl a2] σ v σ1 := Con_mk 3 3 rfl (by decide +kernel) (fun _ H => ok_M_covers_84_w H _ _ _ h)
def f_M_loads_84_p134 (k_9 : Int → Int → pS → Option (Int × pS)) (a1 a2 s0 : Int) (σ : pS) : Option (Int × pS) := if 0 ≤ a1 ∧ a1 < 20 then (if 0 ≤ a1 ∧ a1 < 20 then (k_9 a1 (pw (a2 + 1)) (pU σ 120 (a1.toNat) (pOr (σ 120 a1.toNat) (pShl s0 (pw (8 * a2)))))) else none) else none
def f_M_loads_84_p37 (k_9 : Int → Int → pS → Option (Int × pS)) : Nat → Int → Int → Int → Int → Int → pS → Option (Int × pS)
  | 0, _, _, _, _, _, _ => none
  | n + 1, a1, a2, a3, a4, a5, σ => if a1 ≤ a5 then (if 0 ≤ (pw ((pw (4 * a1)) + a2)) ∧ (pw ((pw (4 * a1)) + a2)) < 80 then (if a4 = (-1) then (if 0 ≤ a3 ∧ a3 < 64 then (f_M_loads_84_p134 k_9 a1 a2 (σ 127 a3.toNat) (pU σ 124 ((pw ((pw (4 * a1)) + a2)).toNat) a4)) else none) else (if 0 ≤ a4 ∧ a4 < 20 then (if 0 ≤ a4 ∧ a4 < 20 then ((f_M_byteOf (σ 120 a4.toNat) (pAnd (pw (a3 - (σ 121 a4.toNat))) 63) (pU σ 124 ((pw ((pw (4 * a1)) + a2)).toNat) a4)).bind fun q10 => (f_M_loads_84_p134 k_9 a1 a2 q10.1 q10.2)) else none) else none)) else none) else (if 0 ≤ a5 ∧ a5 < 20 then (if (σ 88 a5.toNat) = 3 then (if 0 ≤ a5 ∧ a5 < 20 then (if (σ 118 a5.toNat) = 2 then ((f_M_covers_84 a5 a3 σ).bind fun q18 => (if q18.1 = 0 then (f_M_loads_84_p37 k_9 n a1 a2 a3 a4 (pw (a5 + 1)) q18.2) else (f_M_loads_84_p37 k_9 n a1 a2 a3 a5 (pw (a5 + 1)) q18.2))) else (f_M_loads_84_p37 k_9 n a1 a2 a3 a4 (pw (a5 + 1)) σ)) else none) else (f_M_loads_84_p37 k_9 n a1 a2 a3 a4 (pw (a5 + 1)) σ)) else none)
def f_M_loads_84_p9 : Nat → Int → Int → pS → Option (Int × pS)
  | 0, _, _, _ => none
  | n + 1, a1, a2, σ => if 0 ≤ a1 ∧ a1 < 20 then (if (σ 93 a1.toNat) ≤ a2 then (some (0, σ)) else (if 0 ≤ a1 ∧ a1 < 20 then (f_M_loads_84_p37 (f_M_loads_84_p9 n) 4096 a1 a2 (pAnd (pw ((σ 121 a1.toNat) + a2)) 63) (-1) 0 σ) else none)) else none
def f_M_loads_84 (a1 : Int) (σ : pS) : Option (Int × pS) := if 0 ≤ a1 ∧ a1 < 20 then (f_M_loads_84_p9 4096 a1 0 (pU σ 120 (a1.toNat) 0)) else none
theorem ok_M_loads_84_p134 {l : Launch} {rv : Int} {rσ : pS} {G : Nat → pL → List pV → pS → Prop} (H : px_R l 1 183 rv rσ G) {k_9 : Int → Int → pS → Option (Int × pS)} (hk_9 : ∀ (a1 a2 : Int) (σ : pS), k_9 a1 a2 σ = some (rv, rσ) → G 9 [some (.inr 84), some (.inl a1), some (.inl a2), none, none, none] [] σ) : ∀ (a1 a2 s0 : Int) (σ : pS), f_M_loads_84_p134 k_9 a1 a2 s0 σ = some (rv, rσ) → G 134 [some (.inr 84), some (.inl a1), some (.inl a2), none, none, none] [.inl s0] σ := by
  intro a1 a2 s0 σ h
  unfold f_M_loads_84_p134 at h
  refine H [((3, 5, 0, 0, []), 2), ((2, 0, 0, 0, []), 1), ((17, 84, 120, 0, []), 3), ((1, 1, 0, 0, []), 1), ((2, 0, 0, 0, []), 1), ((17, 84, 120, 0, []), 3), ((1, 1, 0, 0, []), 1), ((19, 120, 20, 0, []), 1), ((1, 5, 0, 0, []), 2), ((0, 0, 0, 8, []), 2), ((1, 2, 0, 0, []), 1), ((6, 2, 0, 0, []), 1), ((6, 6, 0, 0, []), 1), ((6, 4, 0, 0, []), 1), ((20, 120, 20, 0, []), 1), ((5, 2, 0, 1, []), 3), ((12, 0, 9, 0, []), 3), ((29, 5, 0, 0, []), 0)] 134 _ _ _ (by decide +kernel) ?_
  obtain ⟨g11, h⟩ := px_gd h
  refine And.intro g11 ?_
  obtain ⟨g12, h⟩ := px_gd h
  refine And.intro g12 ?_
  exact hk_9 _ _ _ h
theorem ok_M_loads_84_p37 {l : Launch} {rv : Int} {rσ : pS} {G : Nat → pL → List pV → pS → Prop} (H : px_R l 1 183 rv rσ G) {k_9 : Int → Int → pS → Option (Int × pS)} (hk_9 : ∀ (a1 a2 : Int) (σ : pS), k_9 a1 a2 σ = some (rv, rσ) → G 9 [some (.inr 84), some (.inl a1), some (.inl a2), none, none, none] [] σ) : ∀ (n : Nat) (a1 a2 a3 a4 a5 : Int) (σ : pS), f_M_loads_84_p37 k_9 n a1 a2 a3 a4 a5 σ = some (rv, rσ) → G 37 [some (.inr 84), some (.inl a1), some (.inl a2), some (.inl a3), some (.inl a4), some (.inl a5)] [] σ := by
  intro n
  induction n with
  | zero =>
    intro a1 a2 a3 a4 a5 σ h
    unfold f_M_loads_84_p37 at h
    cases h
  | succ n ih =>
    intro a1 a2 a3 a4 a5 σ h
    unfold f_M_loads_84_p37 at h
    refine H [((1, 5, 0, 0, []), 2), ((1, 1, 0, 0, []), 1), ((13, 3, 85, 0, []), 3), ((2, 0, 0, 0, []), 1), ((17, 84, 88, 0, []), 3), ((1, 5, 0, 0, []), 2), ((19, 88, 20, 0, []), 1), ((0, 0, 0, 3, []), 1), ((13, 1, 79, 0, []), 3), ((2, 0, 0, 0, []), 1), ((17, 84, 118, 0, []), 3), ((1, 5, 0, 0, []), 2), ((19, 118, 20, 0, []), 1), ((0, 0, 0, 2, []), 1), ((13, 1, 79, 0, []), 3), ((2, 0, 0, 0, []), 1), ((1, 5, 0, 0, []), 2), ((1, 3, 0, 0, []), 1), ((23, 184, 2, 1, [(0, 84)]), 3), ((14, 0, 79, 0, []), 3), ((1, 5, 0, 0, []), 2), ((3, 4, 0, 0, []), 2), ((5, 5, 0, 1, []), 3), ((12, 0, 37, 0, []), 3)] 37 _ _ _ (by decide +kernel) ?_
    rcases px_ite h with ⟨c5, h⟩ | ⟨c5, h⟩
    · refine And.intro (fun _ => ?_) (fun hn => absurd c5 hn)
      refine H [((2, 0, 0, 0, []), 1), ((17, 84, 124, 0, []), 3), ((0, 0, 0, 4, []), 1), ((1, 1, 0, 0, []), 1), ((6, 2, 0, 0, []), 1), ((1, 2, 0, 0, []), 1), ((6, 0, 0, 0, []), 1), ((1, 4, 0, 0, []), 2), ((20, 124, 80, 0, []), 1), ((1, 4, 0, 0, []), 2), ((0, 0, 0, (-1), []), 1), ((13, 1, 112, 0, []), 3), ((2, 0, 0, 0, []), 1), ((17, 84, 127, 0, []), 3), ((1, 3, 0, 0, []), 1), ((19, 127, 64, 0, []), 1), ((12, 0, 134, 0, []), 3), ((29, 3, 0, 0, []), 0), ((29, 4, 0, 0, []), 0), ((29, 5, 0, 0, []), 0)] 85 _ _ _ (by decide +kernel) ?_
      obtain ⟨g6, h⟩ := px_gd h
      refine And.intro g6 ?_
      rcases px_ite h with ⟨c7, h⟩ | ⟨c7, h⟩
      · refine And.intro (fun hp => absurd c7 hp) (fun _ => ?_)
        obtain ⟨g13, h⟩ := px_gd h
        refine And.intro g13 ?_
        exact ok_M_loads_84_p134 H hk_9 _ _ _ _ h
      · refine And.intro (fun _ => ?_) (fun hn => absurd c7 hn)
        refine H [((2, 0, 0, 0, []), 1), ((17, 84, 120, 0, []), 3), ((1, 4, 0, 0, []), 2), ((19, 120, 20, 0, []), 1), ((1, 3, 0, 0, []), 1), ((2, 0, 0, 0, []), 1), ((17, 84, 121, 0, []), 3), ((1, 4, 0, 0, []), 2), ((19, 121, 20, 0, []), 1), ((6, 1, 0, 0, []), 1), ((0, 0, 0, 63, []), 2), ((6, 3, 0, 0, []), 1), ((24, 185, 2, 1, []), 3), ((29, 3, 0, 0, []), 0), ((29, 4, 0, 0, []), 0), ((29, 5, 0, 0, []), 0)] 112 _ _ _ (by decide +kernel) ?_
        obtain ⟨g8, h⟩ := px_gd h
        refine And.intro g8 ?_
        obtain ⟨g9, h⟩ := px_gd h
        refine And.intro g9 ?_
        obtain ⟨⟨vq10, σq10⟩, hq10, h⟩ := px_bind h
        dsimp only at h
        refine Exists.intro 0 (Exists.intro vq10 (Exists.intro σq10 (And.intro (Nat.le_of_ble_eq_true rfl) (And.intro (ok_M_byteOf hq10) ?_))))
        exact ok_M_loads_84_p134 H hk_9 _ _ _ _ h
    · refine And.intro (fun hp => absurd hp c5) (fun _ => ?_)
      obtain ⟨g14, h⟩ := px_gd h
      refine And.intro g14 ?_
      rcases px_ite h with ⟨c15, h⟩ | ⟨c15, h⟩
      · refine And.intro (fun hp => absurd c15 hp) (fun _ => ?_)
        obtain ⟨g16, h⟩ := px_gd h
        refine And.intro g16 ?_
        rcases px_ite h with ⟨c17, h⟩ | ⟨c17, h⟩
        · refine And.intro (fun hp => absurd c17 hp) (fun _ => ?_)
          obtain ⟨⟨vq18, σq18⟩, hq18, h⟩ := px_bind h
          dsimp only at h
          refine Exists.intro 0 (Exists.intro vq18 (Exists.intro σq18 (And.intro (Nat.le_of_ble_eq_true rfl) (And.intro (ok_M_covers_84 hq18) ?_))))
          rcases px_ite h with ⟨c19, h⟩ | ⟨c19, h⟩
          · refine And.intro (fun _ => ?_) (fun hn => absurd c19 hn)
            refine H [((5, 5, 0, 1, []), 3), ((12, 0, 37, 0, []), 3)] 79 _ _ _ (by decide +kernel) ?_
            exact ih _ _ _ _ _ _ h
          · refine And.intro (fun hp => absurd hp c19) (fun _ => ?_)
            exact ih _ _ _ _ _ _ h
        · refine And.intro (fun _ => ?_) (fun hn => absurd c17 hn)
          refine H [((5, 5, 0, 1, []), 3), ((12, 0, 37, 0, []), 3)] 79 _ _ _ (by decide +kernel) ?_
          exact ih _ _ _ _ _ _ h
      · refine And.intro (fun _ => ?_) (fun hn => absurd c15 hn)
        refine H [((5, 5, 0, 1, []), 3), ((12, 0, 37, 0, []), 3)] 79 _ _ _ (by decide +kernel) ?_
        exact ih _ _ _ _ _ _ h
theorem ok_M_loads_84_p9 {l : Launch} {rv : Int} {rσ : pS} {G : Nat → pL → List pV → pS → Prop} (H : px_R l 1 183 rv rσ G) : ∀ (n : Nat) (a1 a2 : Int) (σ : pS), f_M_loads_84_p9 n a1 a2 σ = some (rv, rσ) → G 9 [some (.inr 84), some (.inl a1), some (.inl a2), none, none, none] [] σ := by
  intro n
  induction n with
  | zero =>
    intro a1 a2 σ h
    unfold f_M_loads_84_p9 at h
    cases h
  | succ n ih =>
    intro a1 a2 σ h
    unfold f_M_loads_84_p9 at h
    refine H [((1, 2, 0, 0, []), 1), ((2, 0, 0, 0, []), 1), ((17, 84, 93, 0, []), 3), ((1, 1, 0, 0, []), 1), ((19, 93, 20, 0, []), 1), ((13, 3, 162, 0, []), 3), ((2, 0, 0, 0, []), 1), ((17, 84, 121, 0, []), 3), ((1, 1, 0, 0, []), 1), ((19, 121, 20, 0, []), 1), ((1, 2, 0, 0, []), 1), ((6, 0, 0, 0, []), 1), ((0, 0, 0, 63, []), 2), ((6, 3, 0, 0, []), 1), ((3, 3, 0, 0, []), 1), ((0, 0, 0, (-1), []), 1), ((3, 4, 0, 0, []), 2), ((0, 0, 0, 0, []), 1), ((3, 5, 0, 0, []), 2)] 9 _ _ _ (by decide +kernel) ?_
    obtain ⟨g2, h⟩ := px_gd h
    refine And.intro g2 ?_
    rcases px_ite h with ⟨c3, h⟩ | ⟨c3, h⟩
    · refine And.intro (fun _ => ?_) (fun hn => absurd c3 hn)
      refine H [((28, 0, 0, 0, []), 1)] 162 _ _ _ (by decide +kernel) ?_
      exact (Prod.mk.inj (Option.some.inj h)).2
    · refine And.intro (fun hp => absurd hp c3) (fun _ => ?_)
      obtain ⟨g4, h⟩ := px_gd h
      refine And.intro g4 ?_
      exact ok_M_loads_84_p37 H ih _ _ _ _ _ _ _ h
theorem ok_M_loads_84_w {l : Launch} {rv : Int} {rσ : pS} {G : Nat → pL → List pV → pS → Prop} (H : px_R l 1 183 rv rσ G) : ∀ (a1 : Int) (σ : pS), f_M_loads_84 a1 σ = some (rv, rσ) → G 0 [some (.inr 84), some (.inl a1), none, none, none, none] [] σ := by
  intro a1 σ h
  unfold f_M_loads_84 at h
  refine H [((2, 0, 0, 0, []), 1), ((17, 84, 120, 0, []), 3), ((1, 1, 0, 0, []), 1), ((0, 0, 0, 0, []), 1), ((20, 120, 20, 0, []), 1), ((0, 0, 0, 0, []), 1), ((3, 2, 0, 0, []), 1)] 0 _ _ _ (by decide +kernel) ?_
  obtain ⟨g1, h⟩ := px_gd h
  refine And.intro g1 ?_
  exact ok_M_loads_84_p9 H _ _ _ _ h
theorem ok_M_loads_84 {l : Launch} {a1 : Int} {σ : pS} {v : Int} {σ1 : pS} (h : f_M_loads_84 a1 σ = some (v, σ1)) : Con l 1 183 [.inr 84, .inl a1] σ v σ1 := Con_mk 2 6 rfl (by decide +kernel) (fun _ H => ok_M_loads_84_w H _ _ h)
