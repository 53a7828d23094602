def f_Mach_replay_3_p37 (k_16 : Int → Int → pS → Option (Int × pS)) : Nat → Int → Int → Int → pS → Option (Int × pS)
  | 0, _, _, _, _ => none
  | n + 1, a2, a3, a4, σ => if (σ 4 11) ≤ a4 then (k_16 a2 (pw (a3 + 1)) σ) else (if 0 ≤ a4 ∧ a4 < 20 then (if (σ 39 a4.toNat) = 0 then (f_Mach_replay_3_p37 k_16 n a2 a3 (pw (a4 + 1)) σ) else (if 20 ≤ a2 then (f_Mach_replay_3_p37 k_16 n a2 a3 (pw (a4 + 1)) σ) else (if 0 ≤ a3 ∧ a3 < 20 then ((f_Mach_dependsOn_3 a4 (σ 44 a3.toNat) σ).bind fun q10 => (if q10.1 = 0 then (f_Mach_replay_3_p37 k_16 n a2 a3 (pw (a4 + 1)) q10.2) else ((f_Mach_makeWait_3 a4 q10.2).bind fun q12 => (if 0 ≤ a2 ∧ a2 < 20 then (f_Mach_replay_3_p37 k_16 n (pw (a2 + 1)) a3 (pw (a4 + 1)) (pU q12.2 44 (a2.toNat) a4)) else none)))) else none))) else none)
def f_Mach_replay_3_p16 : Nat → Int → Int → pS → Option (Int × pS)
  | 0, _, _, _ => none
  | n + 1, a2, a3, σ => if a2 ≤ a3 then (some (0, σ)) else (if 20 ≤ a3 then (some (0, σ)) else (if 0 ≤ a3 ∧ a3 < 20 then (f_Mach_replay_3_p37 (f_Mach_replay_3_p16 n) 4096 a2 a3 (pw ((σ 44 a3.toNat) + 1)) σ) else none))
def f_Mach_replay_3 (a1 : Int) (σ : pS) : Option (Int × pS) := (f_Mach_makeWait_3 a1 σ).bind fun q1 => (f_Mach_replay_3_p16 4096 1 0 (pU q1.2 44 0 a1))
theorem ok_Mach_replay_3_p37 {l : Launch} {rv : Int} {rσ : pS} {G : Nat → pL → List pV → pS → Prop} (H : px_R l 2 76 rv rσ G) {k_16 : Int → Int → pS → Option (Int × pS)} (hk_16 : ∀ (a2 a3 : Int) (σ : pS), k_16 a2 a3 σ = some (rv, rσ) → G 16 [some (.inr 3), none, some (.inl a2), some (.inl a3), none] [] σ) : ∀ (n : Nat) (a2 a3 a4 : Int) (σ : pS), f_Mach_replay_3_p37 k_16 n a2 a3 a4 σ = some (rv, rσ) → G 37 [some (.inr 3), none, some (.inl a2), some (.inl a3), some (.inl a4)] [] σ := by
  intro n
  induction n with
  | zero =>
    intro a2 a3 a4 σ h
    unfold f_Mach_replay_3_p37 at h
    cases h
  | succ n ih =>
    intro a2 a3 a4 σ h
    unfold f_Mach_replay_3_p37 at h
    refine H [((1, 4, 0, 0, []), 2), ((2, 0, 0, 0, []), 1), ((17, 3, 4, 0, []), 3), ((16, 4, 11, 0, []), 3), ((13, 3, 103, 0, []), 3), ((2, 0, 0, 0, []), 1), ((17, 3, 39, 0, []), 3), ((1, 4, 0, 0, []), 2), ((19, 39, 20, 0, []), 1), ((14, 0, 97, 0, []), 3), ((1, 2, 0, 0, []), 1), ((0, 0, 0, 20, []), 2), ((13, 3, 97, 0, []), 3), ((2, 0, 0, 0, []), 1), ((1, 4, 0, 0, []), 2), ((2, 0, 0, 0, []), 1), ((17, 3, 44, 0, []), 3), ((1, 3, 0, 0, []), 1), ((19, 44, 20, 0, []), 1), ((23, 79, 2, 1, [(0, 3)]), 3), ((14, 0, 97, 0, []), 3), ((2, 0, 0, 0, []), 1), ((1, 4, 0, 0, []), 2), ((23, 77, 1, 0, [(0, 3)]), 3), ((2, 0, 0, 0, []), 1), ((17, 3, 44, 0, []), 3), ((1, 2, 0, 0, []), 1), ((1, 4, 0, 0, []), 2), ((20, 44, 20, 0, []), 1), ((5, 2, 0, 1, []), 3), ((5, 4, 0, 1, []), 3), ((12, 0, 37, 0, []), 3)] 37 _ _ _ (by decide +kernel) ?_
    rcases px_ite h with ⟨c5, h⟩ | ⟨c5, h⟩
    · refine And.intro (fun _ => ?_) (fun hn => absurd c5 hn)
      refine H [((5, 3, 0, 1, []), 3), ((12, 0, 16, 0, []), 3), ((29, 4, 0, 0, []), 0)] 103 _ _ _ (by decide +kernel) ?_
      exact hk_16 _ _ _ h
    · refine And.intro (fun hp => absurd hp c5) (fun _ => ?_)
      obtain ⟨g6, h⟩ := px_gd h
      refine And.intro g6 ?_
      rcases px_ite h with ⟨c7, h⟩ | ⟨c7, h⟩
      · refine And.intro (fun _ => ?_) (fun hn => absurd c7 hn)
        refine H [((5, 4, 0, 1, []), 3), ((12, 0, 37, 0, []), 3)] 97 _ _ _ (by decide +kernel) ?_
        exact ih _ _ _ _ h
      · refine And.intro (fun hp => absurd hp c7) (fun _ => ?_)
        rcases px_ite h with ⟨c8, h⟩ | ⟨c8, h⟩
        · refine And.intro (fun _ => ?_) (fun hn => absurd c8 hn)
          refine H [((5, 4, 0, 1, []), 3), ((12, 0, 37, 0, []), 3)] 97 _ _ _ (by decide +kernel) ?_
          exact ih _ _ _ _ h
        · refine And.intro (fun hp => absurd hp c8) (fun _ => ?_)
          obtain ⟨g9, h⟩ := px_gd h
          refine And.intro g9 ?_
          obtain ⟨⟨vq10, σq10⟩, hq10, h⟩ := px_bind h
          dsimp only at h
          refine Exists.intro 0 (Exists.intro vq10 (Exists.intro σq10 (And.intro (Nat.le_of_ble_eq_true rfl) (And.intro (ok_Mach_dependsOn_3 hq10) ?_))))
          rcases px_ite h with ⟨c11, h⟩ | ⟨c11, h⟩
          · refine And.intro (fun _ => ?_) (fun hn => absurd c11 hn)
            refine H [((5, 4, 0, 1, []), 3), ((12, 0, 37, 0, []), 3)] 97 _ _ _ (by decide +kernel) ?_
            exact ih _ _ _ _ h
          · refine And.intro (fun hp => absurd hp c11) (fun _ => ?_)
            obtain ⟨⟨vq12, σq12⟩, hq12, h⟩ := px_bind h
            dsimp only at h
            refine Exists.intro 1 (Exists.intro vq12 (Exists.intro σq12 (And.intro (Nat.le_of_ble_eq_true rfl) (And.intro (ok_Mach_makeWait_3 hq12) ?_))))
            obtain ⟨g13, h⟩ := px_gd h
            refine And.intro g13 ?_
            exact ih _ _ _ _ h
theorem ok_Mach_replay_3_p16 {l : Launch} {rv : Int} {rσ : pS} {G : Nat → pL → List pV → pS → Prop} (H : px_R l 2 76 rv rσ G) : ∀ (n : Nat) (a2 a3 : Int) (σ : pS), f_Mach_replay_3_p16 n a2 a3 σ = some (rv, rσ) → G 16 [some (.inr 3), none, some (.inl a2), some (.inl a3), none] [] σ := by
  intro n
  induction n with
  | zero =>
    intro a2 a3 σ h
    unfold f_Mach_replay_3_p16 at h
    cases h
  | succ n ih =>
    intro a2 a3 σ h
    unfold f_Mach_replay_3_p16 at h
    refine H [((1, 3, 0, 0, []), 1), ((1, 2, 0, 0, []), 1), ((13, 3, 109, 0, []), 3), ((1, 3, 0, 0, []), 1), ((0, 0, 0, 20, []), 2), ((13, 3, 109, 0, []), 3), ((2, 0, 0, 0, []), 1), ((17, 3, 44, 0, []), 3), ((1, 3, 0, 0, []), 1), ((19, 44, 20, 0, []), 1), ((0, 0, 0, 1, []), 1), ((6, 0, 0, 0, []), 1), ((3, 4, 0, 0, []), 2)] 16 _ _ _ (by decide +kernel) ?_
    rcases px_ite h with ⟨c2, h⟩ | ⟨c2, h⟩
    · refine And.intro (fun _ => ?_) (fun hn => absurd c2 hn)
      refine H [((28, 0, 0, 0, []), 1)] 109 _ _ _ (by decide +kernel) ?_
      exact (Prod.mk.inj (Option.some.inj h)).2
    · refine And.intro (fun hp => absurd hp c2) (fun _ => ?_)
      rcases px_ite h with ⟨c3, h⟩ | ⟨c3, h⟩
      · refine And.intro (fun _ => ?_) (fun hn => absurd c3 hn)
        refine H [((28, 0, 0, 0, []), 1)] 109 _ _ _ (by decide +kernel) ?_
        exact (Prod.mk.inj (Option.some.inj h)).2
      · refine And.intro (fun hp => absurd hp c3) (fun _ => ?_)
        obtain ⟨g4, h⟩ := px_gd h
        refine And.intro g4 ?_
        exact ok_Mach_replay_3_p37 H ih _ _ _ _ _ h
theorem ok_Mach_replay_3_w {l : Launch} {rv : Int} {rσ : pS} {G : Nat → pL → List pV → pS → Prop} (H : px_R l 2 76 rv rσ G) : ∀ (a1 : Int) (σ : pS), f_Mach_replay_3 a1 σ = some (rv, rσ) → G 0 [some (.inr 3), some (.inl a1), none, none, none] [] σ := by
  intro a1 σ h
  unfold f_Mach_replay_3 at h
  refine H [((2, 0, 0, 0, []), 1), ((1, 1, 0, 0, []), 1), ((23, 77, 1, 0, [(0, 3)]), 3), ((2, 0, 0, 0, []), 1), ((17, 3, 44, 0, []), 3), ((0, 0, 0, 0, []), 1), ((1, 1, 0, 0, []), 1), ((20, 44, 20, 0, []), 1), ((0, 0, 0, 1, []), 1), ((3, 2, 0, 0, []), 1), ((0, 0, 0, 0, []), 1), ((3, 3, 0, 0, []), 1), ((29, 1, 0, 0, []), 0)] 0 _ _ _ (by decide +kernel) ?_
  obtain ⟨⟨vq1, σq1⟩, hq1, h⟩ := px_bind h
  dsimp only at h
  refine Exists.intro 1 (Exists.intro vq1 (Exists.intro σq1 (And.intro (Nat.le_of_ble_eq_true rfl) (And.intro (ok_Mach_makeWait_3 hq1) ?_))))
  refine And.intro (show (0 : Int) ≤ 0 ∧ (0 : Int) < 20 from by decide) ?_
  exact ok_Mach_replay_3_p16 H _ _ _ _ h
theorem ok_Mach_replay_3 {l : Launch} {a1 : Int} {σ : pS} {v : Int} {σ1 : pS} (h : f_Mach_replay_3 a1 σ = some (v, σ1)) : Con l 2 76 [.inr 3, .inl a1] σ v σ1 := Con_mk 2 5 rfl (by decide +kernel) (fun _ H => ok_Mach_replay_3_w H _ _ h)
def f_X_covers (a0 a1 a2 : Int) (σ : pS) : Option (Int × pS) := if a1 ≤ (pAnd (pw (a2 - a0)) 63) then (some (0, σ)) else (some (1, σ))
theorem ok_X_covers_w {l : Launch} {rv : Int} {rσ : pS} {G : Nat → pL → List pV → pS → Prop} (H : px_R l 0 70 rv rσ G) : ∀ (a0 a1 a2 : Int) (σ : pS), f_X_covers a0 a1 a2 σ = some (rv, rσ) → G 0 [some (.inl a0), some (.inl a1), some (.inl a2)] [] σ := by
  intro a0 a1 a2 σ h
  unfold f_X_covers at h
  refine H [((1, 2, 0, 0, []), 1), ((1, 0, 0, 0, []), 1), ((6, 1, 0, 0, []), 1), ((0, 0, 0, 63, []), 2), ((6, 3, 0, 0, []), 1), ((1, 1, 0, 0, []), 1), ((13, 3, 14, 0, []), 3), ((0, 0, 0, 1, []), 1), ((12, 0, 15, 0, []), 3), ((27, 1, 0, 0, []), 1)] 0 _ _ _ (by decide +kernel) ?_
  rcases px_ite h with ⟨c1, h⟩ | ⟨c1, h⟩
  · refine And.intro (fun _ => ?_) (fun hn => absurd c1 hn)
    refine H [((0, 0, 0, 0, []), 1), ((27, 1, 0, 0, []), 1)] 14 _ _ _ (by decide +kernel) ?_
    refine And.intro (show (0 : Int) ≤ 0 ∧ (0 : Int) ≤ 1 from by decide) ?_
    exact Prod.mk.inj (Option.some.inj h)
  · refine And.intro (fun hp => absurd hp c1) (fun _ => ?_)
    refine And.intro (show (0 : Int) ≤ 1 ∧ (1 : Int) ≤ 1 from by decide) ?_
    exact Prod.mk.inj (Option.some.inj h)
theorem ok_X_covers {l : Launch} {a0 a1 a2 : Int} {σ : pS} {v : Int} {σ1 : pS} (h : f_X_covers a0 a1 a2 σ = some (v, σ1)) : Con l 0 70 [.inl a0, .inl a1, .inl a2] σ v σ1 := Con_mk 3 3 rfl (by decide +kernel) (fun _ H => ok_X_covers_w H _ _ _ _ h)
def f_Mach_tookTooOld_3_p2 : Nat → Int → Int → Int → pS → Option (Int × pS)
  | 0, _, _, _, _ => none
  | n + 1, a1, a2, a3, σ => if 0 ≤ a1 ∧ a1 < 20 then (if (σ 7 a1.toNat) ≤ a3 then (some (0, σ)) else (if 0 ≤ a1 ∧ a1 < 20 then (if 0 ≤ (pw ((pw (a1 * 4)) + a3)) ∧ (pw ((pw (a1 * 4)) + a3)) < 80 then (if a2 ≤ (σ 38 (pw ((pw (a1 * 4)) + a3)).toNat) then (f_Mach_tookTooOld_3_p2 n a1 a2 (pw (a3 + 1)) σ) else (if 0 ≤ a2 ∧ a2 < 20 then (if 0 ≤ a2 ∧ a2 < 20 then ((f_X_covers (σ 37 a2.toNat) (σ 7 a2.toNat) (pAnd (pw ((σ 37 a1.toNat) + a3)) 63) σ).bind fun q8 => (if q8.1 = 0 then (f_Mach_tookTooOld_3_p2 n a1 a2 (pw (a3 + 1)) q8.2) else (some (1, q8.2)))) else none) else none)) else none) else none)) else none
def f_Mach_tookTooOld_3 (a1 a2 : Int) (σ : pS) : Option (Int × pS) := f_Mach_tookTooOld_3_p2 4096 a1 a2 0 σ
theorem ok_Mach_tookTooOld_3_p2 {l : Launch} {rv : Int} {rσ : pS} {G : Nat → pL → List pV → pS → Prop} (H : px_R l 1 74 rv rσ G) : ∀ (n : Nat) (a1 a2 a3 : Int) (σ : pS), f_Mach_tookTooOld_3_p2 n a1 a2 a3 σ = some (rv, rσ) → G 2 [some (.inr 3), some (.inl a1), some (.inl a2), some (.inl a3), none] [] σ := by
  intro n
  induction n with
  | zero =>
    intro a1 a2 a3 σ h
    unfold f_Mach_tookTooOld_3_p2 at h
    cases h
  | succ n ih =>
    intro a1 a2 a3 σ h
    unfold f_Mach_tookTooOld_3_p2 at h
    refine H [((1, 3, 0, 0, []), 1), ((2, 0, 0, 0, []), 1), ((17, 3, 4, 0, []), 3), ((17, 4, 7, 0, []), 3), ((1, 1, 0, 0, []), 1), ((19, 7, 20, 0, []), 1), ((13, 3, 82, 0, []), 3), ((2, 0, 0, 0, []), 1), ((17, 3, 32, 0, []), 3), ((17, 32, 37, 0, []), 3), ((1, 1, 0, 0, []), 1), ((19, 37, 20, 0, []), 1), ((1, 3, 0, 0, []), 1), ((6, 0, 0, 0, []), 1), ((0, 0, 0, 63, []), 2), ((6, 3, 0, 0, []), 1), ((3, 4, 0, 0, []), 2), ((2, 0, 0, 0, []), 1), ((17, 3, 32, 0, []), 3), ((17, 32, 38, 0, []), 3), ((1, 1, 0, 0, []), 1), ((0, 0, 0, 4, []), 1), ((6, 2, 0, 0, []), 1), ((1, 3, 0, 0, []), 1), ((6, 0, 0, 0, []), 1), ((19, 38, 80, 0, []), 1), ((1, 2, 0, 0, []), 1), ((13, 3, 76, 0, []), 3), ((2, 0, 0, 0, []), 1), ((17, 3, 32, 0, []), 3), ((17, 32, 37, 0, []), 3), ((1, 2, 0, 0, []), 1), ((19, 37, 20, 0, []), 1), ((2, 0, 0, 0, []), 1), ((17, 3, 4, 0, []), 3), ((17, 4, 7, 0, []), 3), ((1, 2, 0, 0, []), 1), ((19, 7, 20, 0, []), 1), ((1, 4, 0, 0, []), 2), ((24, 70, 3, 1, []), 3), ((14, 0, 76, 0, []), 3), ((0, 0, 0, 1, []), 1), ((27, 1, 0, 0, []), 1)] 2 _ _ _ (by decide +kernel) ?_
    obtain ⟨g1, h⟩ := px_gd h
    refine And.intro g1 ?_
    rcases px_ite h with ⟨c2, h⟩ | ⟨c2, h⟩
    · refine And.intro (fun _ => ?_) (fun hn => absurd c2 hn)
      refine H [((0, 0, 0, 0, []), 1), ((27, 1, 0, 0, []), 1)] 82 _ _ _ (by decide +kernel) ?_
      refine And.intro (show (0 : Int) ≤ 0 ∧ (0 : Int) ≤ 1 from by decide) ?_
      exact Prod.mk.inj (Option.some.inj h)
    · refine And.intro (fun hp => absurd hp c2) (fun _ => ?_)
      obtain ⟨g3, h⟩ := px_gd h
      refine And.intro g3 ?_
      obtain ⟨g4, h⟩ := px_gd h
      refine And.intro g4 ?_
      rcases px_ite h with ⟨c5, h⟩ | ⟨c5, h⟩
      · refine And.intro (fun _ => ?_) (fun hn => absurd c5 hn)
        refine H [((5, 3, 0, 1, []), 3), ((12, 0, 2, 0, []), 3), ((29, 4, 0, 0, []), 0)] 76 _ _ _ (by decide +kernel) ?_
        exact ih _ _ _ _ h
      · refine And.intro (fun hp => absurd hp c5) (fun _ => ?_)
        obtain ⟨g6, h⟩ := px_gd h
        refine And.intro g6 ?_
        obtain ⟨g7, h⟩ := px_gd h
        refine And.intro g7 ?_
        obtain ⟨⟨vq8, σq8⟩, hq8, h⟩ := px_bind h
        dsimp only at h
        refine Exists.intro 0 (Exists.intro vq8 (Exists.intro σq8 (And.intro (Nat.le_of_ble_eq_true rfl) (And.intro (ok_X_covers hq8) ?_))))
        rcases px_ite h with ⟨c9, h⟩ | ⟨c9, h⟩
        · refine And.intro (fun _ => ?_) (fun hn => absurd c9 hn)
          refine H [((5, 3, 0, 1, []), 3), ((12, 0, 2, 0, []), 3), ((29, 4, 0, 0, []), 0)] 76 _ _ _ (by decide +kernel) ?_
          exact ih _ _ _ _ h
        · refine And.intro (fun hp => absurd hp c9) (fun _ => ?_)
          refine And.intro (show (0 : Int) ≤ 1 ∧ (1 : Int) ≤ 1 from by decide) ?_
          exact Prod.mk.inj (Option.some.inj h)
theorem ok_Mach_tookTooOld_3_w {l : Launch} {rv : Int} {rσ : pS} {G : Nat → pL → List pV → pS → Prop} (H : px_R l 1 74 rv rσ G) : ∀ (a1 a2 : Int) (σ : pS), f_Mach_tookTooOld_3 a1 a2 σ = some (rv, rσ) → G 0 [some (.inr 3), some (.inl a1), some (.inl a2), none, none] [] σ := by
  intro a1 a2 σ h
  unfold f_Mach_tookTooOld_3 at h
  refine H [((0, 0, 0, 0, []), 1), ((3, 3, 0, 0, []), 1)] 0 _ _ _ (by decide +kernel) ?_
  exact ok_Mach_tookTooOld_3_p2 H _ _ _ _ _ h
theorem ok_Mach_tookTooOld_3 {l : Launch} {a1 a2 : Int} {σ : pS} {v : Int} {σ1 : pS} (h : f_Mach_tookTooOld_3 a1 a2 σ = some (v, σ1)) : Con l 1 74 [.inr 3, .inl a1, .inl a2] σ v σ1 := Con_mk 3 5 rfl (by decide +kernel) (fun _ H => ok_Mach_tookTooOld_3_w H _ _ _ h)
def f_State_melt_28_p57 (a1 a2 a3 : Int) (σ : pS) : Option (Int × pS) := if a3 = (-1) then (if 0 ≤ a1 ∧ a1 < 20 then (if 0 ≤ a2 ∧ a2 < 20 then (if 0 ≤ a1 ∧ a1 < 20 then (if 0 ≤ a2 ∧ a2 < 20 then (some (0, pU (pU σ 31 (a1.toNat) (pMax (σ 31 a1.toNat) (σ 31 a2.toNat))) 31 (a2.toNat) (pMax (σ 31 a1.toNat) (σ 31 a2.toNat)))) else none) else none) else none) else none) else (if 0 ≤ a1 ∧ a1 < 20 then (if 0 ≤ a2 ∧ a2 < 20 then (some (0, pU (pU σ 31 (a1.toNat) a3) 31 (a2.toNat) a3)) else none) else none)
def f_State_melt_28 (a1 a2 : Int) (σ : pS) : Option (Int × pS) := if 0 ≤ a1 ∧ a1 < 20 then (if 0 ≤ a2 ∧ a2 < 20 then (if 0 ≤ a1 ∧ a1 < 20 then (if (σ 31 a1.toNat) = (-1) then (if 0 ≤ a2 ∧ a2 < 20 then (if (σ 31 a2.toNat) = (-1) then (if 0 ≤ a1 ∧ a1 < 20 then (if 0 ≤ a2 ∧ a2 < 20 then (some (0, pU (pU (pU σ 28 3 (pRem (pw ((σ 28 3) + 1)) 16)) 31 (a1.toNat) (σ 28 3)) 31 (a2.toNat) (σ 28 3))) else none) else none) else (f_State_melt_28_p57 a1 a2 (pMin (σ 31 a1.toNat) (σ 31 a2.toNat)) σ)) else none) else (f_State_melt_28_p57 a1 a2 (pMin (σ 31 a1.toNat) (σ 31 a2.toNat)) σ)) else none) else none) else none
theorem ok_State_melt_28_p57 {l : Launch} {rv : Int} {rσ : pS} {G : Nat → pL → List pV → pS → Prop} (H : px_R l 1 75 rv rσ G) : ∀ (a1 a2 a3 : Int) (σ : pS), f_State_melt_28_p57 a1 a2 a3 σ = some (rv, rσ) → G 57 [some (.inr 28), some (.inl a1), some (.inl a2), some (.inl a3)] [] σ := by
  intro a1 a2 a3 σ h
  unfold f_State_melt_28_p57 at h
  refine H [((1, 3, 0, 0, []), 1), ((0, 0, 0, (-1), []), 1), ((13, 1, 78, 0, []), 3), ((2, 0, 0, 0, []), 1), ((17, 28, 31, 0, []), 3), ((1, 1, 0, 0, []), 1), ((19, 31, 20, 0, []), 1), ((2, 0, 0, 0, []), 1), ((17, 28, 31, 0, []), 3), ((1, 2, 0, 0, []), 1), ((19, 31, 20, 0, []), 1), ((25, 1, 0, 0, []), 3), ((3, 3, 0, 0, []), 1), ((2, 0, 0, 0, []), 1), ((17, 28, 31, 0, []), 3), ((1, 1, 0, 0, []), 1), ((1, 3, 0, 0, []), 1), ((20, 31, 20, 0, []), 1), ((2, 0, 0, 0, []), 1), ((17, 28, 31, 0, []), 3), ((1, 2, 0, 0, []), 1), ((1, 3, 0, 0, []), 1), ((20, 31, 20, 0, []), 1), ((28, 0, 0, 0, []), 1)] 57 _ _ _ (by decide +kernel) ?_
  rcases px_ite h with ⟨c5, h⟩ | ⟨c5, h⟩
  · refine And.intro (fun hp => absurd c5 hp) (fun _ => ?_)
    obtain ⟨g8, h⟩ := px_gd h
    refine And.intro g8 ?_
    obtain ⟨g9, h⟩ := px_gd h
    refine And.intro g9 ?_
    obtain ⟨g10, h⟩ := px_gd h
    refine And.intro g10 ?_
    obtain ⟨g11, h⟩ := px_gd h
    refine And.intro g11 ?_
    exact (Prod.mk.inj (Option.some.inj h)).2
  · refine And.intro (fun _ => ?_) (fun hn => absurd c5 hn)
    refine H [((2, 0, 0, 0, []), 1), ((17, 28, 31, 0, []), 3), ((1, 1, 0, 0, []), 1), ((1, 3, 0, 0, []), 1), ((20, 31, 20, 0, []), 1), ((2, 0, 0, 0, []), 1), ((17, 28, 31, 0, []), 3), ((1, 2, 0, 0, []), 1), ((1, 3, 0, 0, []), 1), ((20, 31, 20, 0, []), 1), ((28, 0, 0, 0, []), 1)] 78 _ _ _ (by decide +kernel) ?_
    obtain ⟨g6, h⟩ := px_gd h
    refine And.intro g6 ?_
    obtain ⟨g7, h⟩ := px_gd h
    refine And.intro g7 ?_
    exact (Prod.mk.inj (Option.some.inj h)).2
theorem ok_State_melt_28_w {l : Launch} {rv : Int} {rσ : pS} {G : Nat → pL → List pV → pS → Prop} (H : px_R l 1 75 rv rσ G) : ∀ (a1 a2 : Int) (σ : pS), f_State_melt_28 a1 a2 σ = some (rv, rσ) → G 0 [some (.inr 28), some (.inl a1), some (.inl a2), none] [] σ := by
  intro a1 a2 σ h
  unfold f_State_melt_28 at h
  refine H [((2, 0, 0, 0, []), 1), ((17, 28, 31, 0, []), 3), ((1, 1, 0, 0, []), 1), ((19, 31, 20, 0, []), 1), ((2, 0, 0, 0, []), 1), ((17, 28, 31, 0, []), 3), ((1, 2, 0, 0, []), 1), ((19, 31, 20, 0, []), 1), ((25, 0, 0, 0, []), 3), ((3, 3, 0, 0, []), 1), ((2, 0, 0, 0, []), 1), ((17, 28, 31, 0, []), 3), ((1, 1, 0, 0, []), 1), ((19, 31, 20, 0, []), 1), ((0, 0, 0, (-1), []), 1), ((13, 1, 57, 0, []), 3), ((2, 0, 0, 0, []), 1), ((17, 28, 31, 0, []), 3), ((1, 2, 0, 0, []), 1), ((19, 31, 20, 0, []), 1), ((0, 0, 0, (-1), []), 1), ((13, 1, 57, 0, []), 3), ((2, 0, 0, 0, []), 1), ((16, 28, 3, 0, []), 3), ((3, 3, 0, 0, []), 1), ((2, 0, 0, 0, []), 1), ((2, 0, 0, 0, []), 1), ((16, 28, 3, 0, []), 3), ((0, 0, 0, 1, []), 1), ((6, 0, 0, 0, []), 1), ((0, 0, 0, 16, []), 2), ((7, 1, 0, 0, []), 1), ((18, 28, 3, 0, []), 3), ((12, 0, 78, 0, []), 3), ((2, 0, 0, 0, []), 1), ((17, 28, 31, 0, []), 3), ((1, 1, 0, 0, []), 1), ((1, 3, 0, 0, []), 1), ((20, 31, 20, 0, []), 1), ((2, 0, 0, 0, []), 1), ((17, 28, 31, 0, []), 3), ((1, 2, 0, 0, []), 1), ((1, 3, 0, 0, []), 1), ((20, 31, 20, 0, []), 1), ((28, 0, 0, 0, []), 1)] 0 _ _ _ (by decide +kernel) ?_
  obtain ⟨g1, h⟩ := px_gd h
  refine And.intro g1 ?_
  obtain ⟨g2, h⟩ := px_gd h
  refine And.intro g2 ?_
  obtain ⟨g3, h⟩ := px_gd h
  refine And.intro g3 ?_
  rcases px_ite h with ⟨c4, h⟩ | ⟨c4, h⟩
  · refine And.intro (fun hp => absurd c4 hp) (fun _ => ?_)
    obtain ⟨g12, h⟩ := px_gd h
    refine And.intro g12 ?_
    rcases px_ite h with ⟨c13, h⟩ | ⟨c13, h⟩
    · refine And.intro (fun hp => absurd c13 hp) (fun _ => ?_)
      refine And.intro (show (16 : Int) ≠ 0 from by decide) (fun r14 hr14 => ?_)
      replace hr14 : r14 = pRem (pw ((σ 28 3) + 1)) 16 := hr14.trans (px_dr_1 _ _)
      try rw [← hr14] at h
      obtain ⟨g15, h⟩ := px_gd h
      refine And.intro g15 ?_
      obtain ⟨g16, h⟩ := px_gd h
      refine And.intro g16 ?_
      exact (Prod.mk.inj (Option.some.inj h)).2
    · refine And.intro (fun _ => ?_) (fun hn => absurd c13 hn)
      exact ok_State_melt_28_p57 H _ _ _ _ h
  · refine And.intro (fun _ => ?_) (fun hn => absurd c4 hn)
    exact ok_State_melt_28_p57 H _ _ _ _ h
theorem ok_State_melt_28 {l : Launch} {a1 a2 : Int} {σ : pS} {v : Int} {σ1 : pS} (h : f_State_melt_28 a1 a2 σ = some (v, σ1)) : Con l 1 75 [.inr 28, .inl a1, .inl a2] σ v σ1 := Con_mk 3 4 rfl (by decide +kernel) (fun _ H => ok_State_melt_28_w H _ _ _ h)
def f_Mach_lookBack_3_p76 : Nat → Int → Int → pS → Option (Int × pS)
  | 0, _, _, _ => none
  | n + 1, a2, a3, σ => if a2 ≤ a3 then (some (0, σ)) else (if 0 ≤ a3 ∧ a3 < 20 then (if 0 ≤ (σ 43 a3.toNat) ∧ (σ 43 a3.toNat) < 20 then (if (σ 39 (σ 43 a3.toNat).toNat) = 0 then (f_Mach_lookBack_3_p76 n a2 (pw (a3 + 1)) (pU σ 33 1 (pw ((σ 33 1) + 1)))) else (if 0 ≤ a3 ∧ a3 < 20 then ((f_Mach_replay_3 (σ 43 a3.toNat) (pU σ 33 1 (pw ((σ 33 1) + 1)))).bind fun q7 => (f_Mach_lookBack_3_p76 n a2 (pw (a3 + 1)) q7.2)) else none)) else none) else none)
def f_Mach_lookBack_3_p6 : Nat → Int → Int → Int → pS → Option (Int × pS)
  | 0, _, _, _, _ => none
  | n + 1, a1, a2, a3, σ => if (σ 4 11) ≤ a3 then (f_Mach_lookBack_3_p76 4096 a2 0 σ) else (if 0 ≤ a3 ∧ a3 < 20 then (if (σ 5 a3.toNat) = 2 then (if 0 ≤ a3 ∧ a3 < 20 then (if (σ 39 a3.toNat) = 2 then ((f_Mach_tookTooOld_3 a3 a1 σ).bind fun q12 => (if q12.1 = 0 then (f_Mach_lookBack_3_p6 n a1 a2 (pw (a3 + 1)) q12.2) else (if 0 ≤ a2 ∧ a2 < 20 then ((f_State_melt_28 a3 a1 (pU q12.2 43 (a2.toNat) a3)).bind fun q15 => (f_Mach_lookBack_3_p6 n a1 (pw (a2 + 1)) (pw (a3 + 1)) q15.2)) else none))) else (f_Mach_lookBack_3_p6 n a1 a2 (pw (a3 + 1)) σ)) else none) else (f_Mach_lookBack_3_p6 n a1 a2 (pw (a3 + 1)) σ)) else none)
def f_Mach_lookBack_3 (a1 : Int) (σ : pS) : Option (Int × pS) := f_Mach_lookBack_3_p6 4096 a1 0 (pw (a1 + 1)) σ
theorem ok_Mach_lookBack_3_p76 {l : Launch} {rv : Int} {rσ : pS} {G : Nat → pL → List pV → pS → Prop} (H : px_R l 3 73 rv rσ G) : ∀ (n : Nat) (a2 a3 : Int) (σ : pS), f_Mach_lookBack_3_p76 n a2 a3 σ = some (rv, rσ) → G 76 [some (.inr 3), none, some (.inl a2), some (.inl a3)] [] σ := by
  intro n
  induction n with
  | zero =>
    intro a2 a3 σ h
    unfold f_Mach_lookBack_3_p76 at h
    cases h
  | succ n ih =>
    intro a2 a3 σ h
    unfold f_Mach_lookBack_3_p76 at h
    refine H [((1, 3, 0, 0, []), 1), ((1, 2, 0, 0, []), 1), ((13, 3, 124, 0, []), 3), ((2, 0, 0, 0, []), 1), ((17, 3, 32, 0, []), 3), ((17, 32, 33, 0, []), 3), ((0, 0, 0, 1, []), 1), ((10, 0, 0, 0, []), 1), ((19, 33, 6, 0, []), 1), ((0, 0, 0, 1, []), 1), ((6, 0, 0, 0, []), 1), ((20, 33, 6, 0, []), 1), ((2, 0, 0, 0, []), 1), ((17, 3, 39, 0, []), 3), ((2, 0, 0, 0, []), 1), ((17, 3, 43, 0, []), 3), ((1, 3, 0, 0, []), 1), ((19, 43, 20, 0, []), 1), ((19, 39, 20, 0, []), 1), ((14, 0, 118, 0, []), 3), ((2, 0, 0, 0, []), 1), ((2, 0, 0, 0, []), 1), ((17, 3, 43, 0, []), 3), ((1, 3, 0, 0, []), 1), ((19, 43, 20, 0, []), 1), ((23, 76, 1, 0, [(0, 3)]), 3), ((5, 3, 0, 1, []), 3), ((12, 0, 76, 0, []), 3)] 76 _ _ _ (by decide +kernel) ?_
    rcases px_ite h with ⟨c2, h⟩ | ⟨c2, h⟩
    · refine And.intro (fun _ => ?_) (fun hn => absurd c2 hn)
      refine H [((28, 0, 0, 0, []), 1)] 124 _ _ _ (by decide +kernel) ?_
      exact (Prod.mk.inj (Option.some.inj h)).2
    · refine And.intro (fun hp => absurd hp c2) (fun _ => ?_)
      refine And.intro (show (0 : Int) ≤ 1 ∧ (1 : Int) < 6 from by decide) ?_
      refine And.intro (show (0 : Int) ≤ 1 ∧ (1 : Int) < 6 from by decide) ?_
      obtain ⟨g3, h⟩ := px_gd h
      refine And.intro g3 ?_
      obtain ⟨g4, h⟩ := px_gd h
      refine And.intro g4 ?_
      rcases px_ite h with ⟨c5, h⟩ | ⟨c5, h⟩
      · refine And.intro (fun _ => ?_) (fun hn => absurd c5 hn)
        refine H [((5, 3, 0, 1, []), 3), ((12, 0, 76, 0, []), 3)] 118 _ _ _ (by decide +kernel) ?_
        exact ih _ _ _ h
      · refine And.intro (fun hp => absurd hp c5) (fun _ => ?_)
        obtain ⟨g6, h⟩ := px_gd h
        refine And.intro g6 ?_
        obtain ⟨⟨vq7, σq7⟩, hq7, h⟩ := px_bind h
        dsimp only at h
        refine Exists.intro 2 (Exists.intro vq7 (Exists.intro σq7 (And.intro (Nat.le_of_ble_eq_true rfl) (And.intro (ok_Mach_replay_3 hq7) ?_))))
        exact ih _ _ _ h
theorem ok_Mach_lookBack_3_p6 {l : Launch} {rv : Int} {rσ : pS} {G : Nat → pL → List pV → pS → Prop} (H : px_R l 3 73 rv rσ G) : ∀ (n : Nat) (a1 a2 a3 : Int) (σ : pS), f_Mach_lookBack_3_p6 n a1 a2 a3 σ = some (rv, rσ) → G 6 [some (.inr 3), some (.inl a1), some (.inl a2), some (.inl a3)] [] σ := by
  intro n
  induction n with
  | zero =>
    intro a1 a2 a3 σ h
    unfold f_Mach_lookBack_3_p6 at h
    cases h
  | succ n ih =>
    intro a1 a2 a3 σ h
    unfold f_Mach_lookBack_3_p6 at h
    refine H [((1, 3, 0, 0, []), 1), ((2, 0, 0, 0, []), 1), ((17, 3, 4, 0, []), 3), ((16, 4, 11, 0, []), 3), ((13, 3, 74, 0, []), 3), ((2, 0, 0, 0, []), 1), ((17, 3, 4, 0, []), 3), ((17, 4, 5, 0, []), 3), ((1, 3, 0, 0, []), 1), ((19, 5, 20, 0, []), 1), ((0, 0, 0, 2, []), 1), ((13, 1, 68, 0, []), 3), ((2, 0, 0, 0, []), 1), ((17, 3, 39, 0, []), 3), ((1, 3, 0, 0, []), 1), ((19, 39, 20, 0, []), 1), ((0, 0, 0, 2, []), 1), ((13, 1, 68, 0, []), 3), ((2, 0, 0, 0, []), 1), ((1, 3, 0, 0, []), 1), ((1, 1, 0, 0, []), 1), ((23, 74, 2, 1, [(0, 3)]), 3), ((14, 0, 68, 0, []), 3), ((2, 0, 0, 0, []), 1), ((17, 3, 43, 0, []), 3), ((1, 2, 0, 0, []), 1), ((1, 3, 0, 0, []), 1), ((20, 43, 20, 0, []), 1), ((5, 2, 0, 1, []), 3), ((2, 0, 0, 0, []), 1), ((17, 3, 28, 0, []), 3), ((1, 3, 0, 0, []), 1), ((1, 1, 0, 0, []), 1), ((23, 75, 2, 0, [(0, 28)]), 3), ((5, 3, 0, 1, []), 3), ((12, 0, 6, 0, []), 3)] 6 _ _ _ (by decide +kernel) ?_
    rcases px_ite h with ⟨c1, h⟩ | ⟨c1, h⟩
    · refine And.intro (fun _ => ?_) (fun hn => absurd c1 hn)
      refine H [((0, 0, 0, 0, []), 1), ((3, 3, 0, 0, []), 1), ((29, 1, 0, 0, []), 0)] 74 _ _ _ (by decide +kernel) ?_
      exact ok_Mach_lookBack_3_p76 H _ _ _ _ h
    · refine And.intro (fun hp => absurd hp c1) (fun _ => ?_)
      obtain ⟨g8, h⟩ := px_gd h
      refine And.intro g8 ?_
      rcases px_ite h with ⟨c9, h⟩ | ⟨c9, h⟩
      · refine And.intro (fun hp => absurd c9 hp) (fun _ => ?_)
        obtain ⟨g10, h⟩ := px_gd h
        refine And.intro g10 ?_
        rcases px_ite h with ⟨c11, h⟩ | ⟨c11, h⟩
        · refine And.intro (fun hp => absurd c11 hp) (fun _ => ?_)
          obtain ⟨⟨vq12, σq12⟩, hq12, h⟩ := px_bind h
          dsimp only at h
          refine Exists.intro 1 (Exists.intro vq12 (Exists.intro σq12 (And.intro (Nat.le_of_ble_eq_true rfl) (And.intro (ok_Mach_tookTooOld_3 hq12) ?_))))
          rcases px_ite h with ⟨c13, h⟩ | ⟨c13, h⟩
          · refine And.intro (fun _ => ?_) (fun hn => absurd c13 hn)
            refine H [((5, 3, 0, 1, []), 3), ((12, 0, 6, 0, []), 3)] 68 _ _ _ (by decide +kernel) ?_
            exact ih _ _ _ _ h
          · refine And.intro (fun hp => absurd hp c13) (fun _ => ?_)
            obtain ⟨g14, h⟩ := px_gd h
            refine And.intro g14 ?_
            obtain ⟨⟨vq15, σq15⟩, hq15, h⟩ := px_bind h
            dsimp only at h
            refine Exists.intro 1 (Exists.intro vq15 (Exists.intro σq15 (And.intro (Nat.le_of_ble_eq_true rfl) (And.intro (ok_State_melt_28 hq15) ?_))))
            exact ih _ _ _ _ h
        · refine And.intro (fun _ => ?_) (fun hn => absurd c11 hn)
          refine H [((5, 3, 0, 1, []), 3), ((12, 0, 6, 0, []), 3)] 68 _ _ _ (by decide +kernel) ?_
          exact ih _ _ _ _ h
      · refine And.intro (fun _ => ?_) (fun hn => absurd c9 hn)
        refine H [((5, 3, 0, 1, []), 3), ((12, 0, 6, 0, []), 3)] 68 _ _ _ (by decide +kernel) ?_
        exact ih _ _ _ _ h
theorem ok_Mach_lookBack_3_w {l : Launch} {rv : Int} {rσ : pS} {G : Nat → pL → List pV → pS → Prop} (H : px_R l 3 73 rv rσ G) : ∀ (a1 : Int) (σ : pS), f_Mach_lookBack_3 a1 σ = some (rv, rσ) → G 0 [some (.inr 3), some (.inl a1), none, none] [] σ := by
  intro a1 σ h
  unfold f_Mach_lookBack_3 at h
  refine H [((0, 0, 0, 0, []), 1), ((3, 2, 0, 0, []), 1), ((1, 1, 0, 0, []), 1), ((0, 0, 0, 1, []), 1), ((6, 0, 0, 0, []), 1), ((3, 3, 0, 0, []), 1)] 0 _ _ _ (by decide +kernel) ?_
  exact ok_Mach_lookBack_3_p6 H _ _ _ _ _ h
theorem ok_Mach_lookBack_3 {l : Launch} {a1 : Int} {σ : pS} {v : Int} {σ1 : pS} (h : f_Mach_lookBack_3 a1 σ = some (v, σ1)) : Con l 3 73 [.inr 3, .inl a1] σ v σ1 := Con_mk 2 4 rfl (by decide +kernel) (fun _ H => ok_Mach_lookBack_3_w H _ _ h)
def f_Mach_youngestCovering_3_p4 : Nat → Int → Int → pS → Option (Int × pS)
  | 0, _, _, _ => none
  | n + 1, a2, a3, σ => if a3 < 0 then (some ((-1), σ)) else (if 0 ≤ a3 ∧ a3 < 20 then (if (σ 5 a3.toNat) = 3 then (if 0 ≤ a3 ∧ a3 < 20 then (if (σ 39 a3.toNat) = 2 then (if 0 ≤ a3 ∧ a3 < 20 then (if 0 ≤ a3 ∧ a3 < 20 then ((f_X_covers (σ 37 a3.toNat) (σ 7 a3.toNat) a2 σ).bind fun q8 => (if q8.1 = 0 then (f_Mach_youngestCovering_3_p4 n a2 (pw (a3 + (-1))) q8.2) else (some (a3, q8.2)))) else none) else none) else (f_Mach_youngestCovering_3_p4 n a2 (pw (a3 + (-1))) σ)) else none) else (f_Mach_youngestCovering_3_p4 n a2 (pw (a3 + (-1))) σ)) else none)
def f_Mach_youngestCovering_3 (a1 a2 : Int) (σ : pS) : Option (Int × pS) := f_Mach_youngestCovering_3_p4 4096 a2 (pw (a1 - 1)) σ
theorem ok_Mach_youngestCovering_3_p4 {l : Launch} {rv : Int} {rσ : pS} {G : Nat → pL → List pV → pS → Prop} (H : px_R l 1 69 rv rσ G) : ∀ (n : Nat) (a2 a3 : Int) (σ : pS), f_Mach_youngestCovering_3_p4 n a2 a3 σ = some (rv, rσ) → G 4 [some (.inr 3), none, some (.inl a2), some (.inl a3)] [] σ := by
  intro n
  induction n with
  | zero =>
    intro a2 a3 σ h
    unfold f_Mach_youngestCovering_3_p4 at h
    cases h
  | succ n ih =>
    intro a2 a3 σ h
    unfold f_Mach_youngestCovering_3_p4 at h
    refine H [((1, 3, 0, 0, []), 1), ((14, 2, 64, 0, []), 3), ((2, 0, 0, 0, []), 1), ((17, 3, 4, 0, []), 3), ((17, 4, 5, 0, []), 3), ((1, 3, 0, 0, []), 1), ((19, 5, 20, 0, []), 1), ((0, 0, 0, 3, []), 1), ((13, 1, 58, 0, []), 3), ((2, 0, 0, 0, []), 1), ((17, 3, 39, 0, []), 3), ((1, 3, 0, 0, []), 1), ((19, 39, 20, 0, []), 1), ((0, 0, 0, 2, []), 1), ((13, 1, 58, 0, []), 3), ((2, 0, 0, 0, []), 1), ((17, 3, 32, 0, []), 3), ((17, 32, 37, 0, []), 3), ((1, 3, 0, 0, []), 1), ((19, 37, 20, 0, []), 1), ((2, 0, 0, 0, []), 1), ((17, 3, 4, 0, []), 3), ((17, 4, 7, 0, []), 3), ((1, 3, 0, 0, []), 1), ((19, 7, 20, 0, []), 1), ((1, 2, 0, 0, []), 1), ((24, 70, 3, 1, []), 3), ((14, 0, 58, 0, []), 3), ((1, 3, 0, 0, []), 1), ((27, 0, 0, 0, []), 1)] 4 _ _ _ (by decide +kernel) ?_
    rcases px_ite h with ⟨c1, h⟩ | ⟨c1, h⟩
    · refine And.intro (fun _ => ?_) (fun hn => absurd c1 hn)
      refine H [((0, 0, 0, (-1), []), 1), ((27, 0, 0, 0, []), 1)] 64 _ _ _ (by decide +kernel) ?_
      exact Prod.mk.inj (Option.some.inj h)
    · refine And.intro (fun hp => absurd hp c1) (fun _ => ?_)
      obtain ⟨g2, h⟩ := px_gd h
      refine And.intro g2 ?_
      rcases px_ite h with ⟨c3, h⟩ | ⟨c3, h⟩
      · refine And.intro (fun hp => absurd c3 hp) (fun _ => ?_)
        obtain ⟨g4, h⟩ := px_gd h
        refine And.intro g4 ?_
        rcases px_ite h with ⟨c5, h⟩ | ⟨c5, h⟩
        · refine And.intro (fun hp => absurd c5 hp) (fun _ => ?_)
          obtain ⟨g6, h⟩ := px_gd h
          refine And.intro g6 ?_
          obtain ⟨g7, h⟩ := px_gd h
          refine And.intro g7 ?_
          obtain ⟨⟨vq8, σq8⟩, hq8, h⟩ := px_bind h
          dsimp only at h
          refine Exists.intro 0 (Exists.intro vq8 (Exists.intro σq8 (And.intro (Nat.le_of_ble_eq_true rfl) (And.intro (ok_X_covers hq8) ?_))))
          rcases px_ite h with ⟨c9, h⟩ | ⟨c9, h⟩
          · refine And.intro (fun _ => ?_) (fun hn => absurd c9 hn)
            refine H [((5, 3, 0, (-1), []), 3), ((12, 0, 4, 0, []), 3)] 58 _ _ _ (by decide +kernel) ?_
            exact ih _ _ _ h
          · refine And.intro (fun hp => absurd hp c9) (fun _ => ?_)
            exact Prod.mk.inj (Option.some.inj h)
        · refine And.intro (fun _ => ?_) (fun hn => absurd c5 hn)
          refine H [((5, 3, 0, (-1), []), 3), ((12, 0, 4, 0, []), 3)] 58 _ _ _ (by decide +kernel) ?_
          exact ih _ _ _ h
      · refine And.intro (fun _ => ?_) (fun hn => absurd c3 hn)
        refine H [((5, 3, 0, (-1), []), 3), ((12, 0, 4, 0, []), 3)] 58 _ _ _ (by decide +kernel) ?_
        exact ih _ _ _ h
theorem ok_Mach_youngestCovering_3_w {l : Launch} {rv : Int} {rσ : pS} {G : Nat → pL → List pV → pS → Prop} (H : px_R l 1 69 rv rσ G) : ∀ (a1 a2 : Int) (σ : pS), f_Mach_youngestCovering_3 a1 a2 σ = some (rv, rσ) → G 0 [some (.inr 3), some (.inl a1), some (.inl a2), none] [] σ := by
  intro a1 a2 σ h
  unfold f_Mach_youngestCovering_3 at h
  refine H [((1, 1, 0, 0, []), 1), ((0, 0, 0, 1, []), 1), ((6, 1, 0, 0, []), 1), ((3, 3, 0, 0, []), 1), ((29, 1, 0, 0, []), 0)] 0 _ _ _ (by decide +kernel) ?_
  exact ok_Mach_youngestCovering_3_p4 H _ _ _ _ h
theorem ok_Mach_youngestCovering_3 {l : Launch} {a1 a2 : Int} {σ : pS} {v : Int} {σ1 : pS} (h : f_Mach_youngestCovering_3 a1 a2 σ = some (v, σ1)) : Con l 1 69 [.inr 3, .inl a1, .inl a2] σ v σ1 := Con_mk 3 4 rfl (by decide +kernel) (fun _ H => ok_Mach_youngestCovering_3_w H _ _ _ h)
def f_Mach_storedAt_3 (a1 a2 : Int) (σ : pS) : Option (Int × pS) := if 0 ≤ a1 ∧ a1 < 20 then (if 0 ≤ a1 ∧ a1 < 20 then (some (pAnd (pUsh (σ 36 a1.toNat) (pw (8 * (pAnd (pw (a2 - (σ 37 a1.toNat))) 63)))) 255, σ)) else none) else none
theorem ok_Mach_storedAt_3_w {l : Launch} {rv : Int} {rσ : pS} {G : Nat → pL → List pV → pS → Prop} (H : px_R l 0 71 rv rσ G) : ∀ (a1 a2 : Int) (σ : pS), f_Mach_storedAt_3 a1 a2 σ = some (rv, rσ) → G 0 [some (.inr 3), some (.inl a1), some (.inl a2), none] [] σ := by
  intro a1 a2 σ h
  unfold f_Mach_storedAt_3 at h
  refine H [((1, 2, 0, 0, []), 1), ((2, 0, 0, 0, []), 1), ((17, 3, 32, 0, []), 3), ((17, 32, 37, 0, []), 3), ((1, 1, 0, 0, []), 1), ((19, 37, 20, 0, []), 1), ((6, 1, 0, 0, []), 1), ((0, 0, 0, 63, []), 2), ((6, 3, 0, 0, []), 1), ((3, 3, 0, 0, []), 1), ((2, 0, 0, 0, []), 1), ((17, 3, 32, 0, []), 3), ((17, 32, 36, 0, []), 3), ((1, 1, 0, 0, []), 1), ((19, 36, 20, 0, []), 1), ((0, 0, 0, 8, []), 2), ((1, 3, 0, 0, []), 1), ((6, 2, 0, 0, []), 1), ((6, 8, 0, 0, []), 1), ((0, 0, 0, 255, []), 3), ((6, 3, 0, 0, []), 1), ((27, 0, 0, 0, []), 1)] 0 _ _ _ (by decide +kernel) ?_
  obtain ⟨g1, h⟩ := px_gd h
  refine And.intro g1 ?_
  obtain ⟨g2, h⟩ := px_gd h
  refine And.intro g2 ?_
  exact Prod.mk.inj (Option.some.inj h)
theorem ok_Mach_storedAt_3 {l : Launch} {a1 a2 : Int} {σ : pS} {v : Int} {σ1 : pS} (h : f_Mach_storedAt_3 a1 a2 σ = some (v, σ1)) : Con l 0 71 [.inr 3, .inl a1, .inl a2] σ v σ1 := Con_mk 3 4 rfl (by decide +kernel) (fun _ H => ok_Mach_storedAt_3_w H _ _ _ h)
def f_Mach_takeBytes_3_p69 (k_4 : Int → Int → Int → pS → Option (Int × pS)) (a1 a2 a3 a5 s0 : Int) (σ : pS) : Option (Int × pS) := if 0 ≤ (pw ((pw (a1 * 4)) + a3)) ∧ (pw ((pw (a1 * 4)) + a3)) < 80 then (k_4 a1 (pOr a2 (pShl s0 (pw (8 * a3)))) (pw (a3 + 1)) (pU σ 38 ((pw ((pw (a1 * 4)) + a3)).toNat) a5)) else none
def f_Mach_takeBytes_3_p4 : Nat → Int → Int → Int → pS → Option (Int × pS)
  | 0, _, _, _, _ => none
  | n + 1, a1, a2, a3, σ => if 0 ≤ a1 ∧ a1 < 20 then (if (σ 7 a1.toNat) ≤ a3 then (if 0 ≤ a1 ∧ a1 < 20 then (some (0, pU σ 36 (a1.toNat) a2)) else none) else (if 0 ≤ a1 ∧ a1 < 20 then ((f_Mach_youngestCovering_3 a1 (pAnd (pw ((σ 37 a1.toNat) + a3)) 63) σ).bind fun q5 => (if q5.1 = (-1) then (if 0 ≤ (pAnd (pw ((σ 37 a1.toNat) + a3)) 63) ∧ (pAnd (pw ((σ 37 a1.toNat) + a3)) 63) < 64 then (f_Mach_takeBytes_3_p69 (f_Mach_takeBytes_3_p4 n) a1 a2 a3 q5.1 (q5.2 26 (pAnd (pw ((σ 37 a1.toNat) + a3)) 63).toNat) q5.2) else none) else ((f_Mach_storedAt_3 q5.1 (pAnd (pw ((σ 37 a1.toNat) + a3)) 63) q5.2).bind fun q7 => (f_Mach_takeBytes_3_p69 (f_Mach_takeBytes_3_p4 n) a1 a2 a3 q5.1 q7.1 q7.2)))) else none)) else none
def f_Mach_takeBytes_3 (a1 : Int) (σ : pS) : Option (Int × pS) := f_Mach_takeBytes_3_p4 4096 a1 0 0 σ
theorem ok_Mach_takeBytes_3_p69 {l : Launch} {rv : Int} {rσ : pS} {G : Nat → pL → List pV → pS → Prop} (H : px_R l 2 68 rv rσ G) {k_4 : Int → Int → Int → pS → Option (Int × pS)} (hk_4 : ∀ (a1 a2 a3 : Int) (σ : pS), k_4 a1 a2 a3 σ = some (rv, rσ) → G 4 [some (.inr 3), some (.inl a1), some (.inl a2), some (.inl a3), none, none, none] [] σ) : ∀ (a1 a2 a3 a5 s0 : Int) (σ : pS), f_Mach_takeBytes_3_p69 k_4 a1 a2 a3 a5 s0 σ = some (rv, rσ) → G 69 [some (.inr 3), some (.inl a1), some (.inl a2), some (.inl a3), none, some (.inl a5), none] [.inl s0] σ := by
  intro a1 a2 a3 a5 s0 σ h
  unfold f_Mach_takeBytes_3_p69 at h
  refine H [((3, 6, 0, 0, []), 2), ((2, 0, 0, 0, []), 1), ((17, 3, 32, 0, []), 3), ((17, 32, 38, 0, []), 3), ((1, 1, 0, 0, []), 1), ((0, 0, 0, 4, []), 1), ((6, 2, 0, 0, []), 1), ((1, 3, 0, 0, []), 1), ((6, 0, 0, 0, []), 1), ((1, 5, 0, 0, []), 2), ((20, 38, 80, 0, []), 1), ((1, 2, 0, 0, []), 1), ((1, 6, 0, 0, []), 2), ((0, 0, 0, 8, []), 2), ((1, 3, 0, 0, []), 1), ((6, 2, 0, 0, []), 1), ((6, 6, 0, 0, []), 1), ((6, 4, 0, 0, []), 1), ((3, 2, 0, 0, []), 1), ((5, 3, 0, 1, []), 3), ((12, 0, 4, 0, []), 3), ((29, 5, 0, 0, []), 0), ((29, 6, 0, 0, []), 0)] 69 _ _ _ (by decide +kernel) ?_
  obtain ⟨g8, h⟩ := px_gd h
  refine And.intro g8 ?_
  exact hk_4 _ _ _ _ h
theorem ok_Mach_takeBytes_3_p4 {l : Launch} {rv : Int} {rσ : pS} {G : Nat → pL → List pV → pS → Prop} (H : px_R l 2 68 rv rσ G) : ∀ (n : Nat) (a1 a2 a3 : Int) (σ : pS), f_Mach_takeBytes_3_p4 n a1 a2 a3 σ = some (rv, rσ) → G 4 [some (.inr 3), some (.inl a1), some (.inl a2), some (.inl a3), none, none, none] [] σ := by
  intro n
  induction n with
  | zero =>
    intro a1 a2 a3 σ h
    unfold f_Mach_takeBytes_3_p4 at h
    cases h
  | succ n ih =>
    intro a1 a2 a3 σ h
    unfold f_Mach_takeBytes_3_p4 at h
    refine H [((1, 3, 0, 0, []), 1), ((2, 0, 0, 0, []), 1), ((17, 3, 4, 0, []), 3), ((17, 4, 7, 0, []), 3), ((1, 1, 0, 0, []), 1), ((19, 7, 20, 0, []), 1), ((13, 3, 102, 0, []), 3), ((2, 0, 0, 0, []), 1), ((17, 3, 32, 0, []), 3), ((17, 32, 37, 0, []), 3), ((1, 1, 0, 0, []), 1), ((19, 37, 20, 0, []), 1), ((1, 3, 0, 0, []), 1), ((6, 0, 0, 0, []), 1), ((0, 0, 0, 63, []), 2), ((6, 3, 0, 0, []), 1), ((3, 4, 0, 0, []), 2), ((2, 0, 0, 0, []), 1), ((1, 1, 0, 0, []), 1), ((1, 4, 0, 0, []), 2), ((23, 69, 2, 1, [(0, 3)]), 3), ((3, 5, 0, 0, []), 2), ((1, 5, 0, 0, []), 2), ((0, 0, 0, (-1), []), 1), ((13, 1, 61, 0, []), 3), ((2, 0, 0, 0, []), 1), ((17, 3, 24, 0, []), 3), ((17, 24, 26, 0, []), 3), ((1, 4, 0, 0, []), 2), ((19, 26, 64, 0, []), 1), ((12, 0, 69, 0, []), 3), ((29, 4, 0, 0, []), 0)] 4 _ _ _ (by decide +kernel) ?_
    obtain ⟨g1, h⟩ := px_gd h
    refine And.intro g1 ?_
    rcases px_ite h with ⟨c2, h⟩ | ⟨c2, h⟩
    · refine And.intro (fun _ => ?_) (fun hn => absurd c2 hn)
      refine H [((2, 0, 0, 0, []), 1), ((17, 3, 32, 0, []), 3), ((17, 32, 36, 0, []), 3), ((1, 1, 0, 0, []), 1), ((1, 2, 0, 0, []), 1), ((20, 36, 20, 0, []), 1), ((28, 0, 0, 0, []), 1)] 102 _ _ _ (by decide +kernel) ?_
      obtain ⟨g3, h⟩ := px_gd h
      refine And.intro g3 ?_
      exact (Prod.mk.inj (Option.some.inj h)).2
    · refine And.intro (fun hp => absurd hp c2) (fun _ => ?_)
      obtain ⟨g4, h⟩ := px_gd h
      refine And.intro g4 ?_
      obtain ⟨⟨vq5, σq5⟩, hq5, h⟩ := px_bind h
      dsimp only at h
      refine Exists.intro 1 (Exists.intro vq5 (Exists.intro σq5 (And.intro (Nat.le_of_ble_eq_true rfl) (And.intro (ok_Mach_youngestCovering_3 hq5) ?_))))
      rcases px_ite h with ⟨c6, h⟩ | ⟨c6, h⟩
      · refine And.intro (fun hp => absurd c6 hp) (fun _ => ?_)
        obtain ⟨g9, h⟩ := px_gd h
        refine And.intro g9 ?_
        exact ok_Mach_takeBytes_3_p69 H ih _ _ _ _ _ _ h
      · refine And.intro (fun _ => ?_) (fun hn => absurd c6 hn)
        refine H [((2, 0, 0, 0, []), 1), ((1, 5, 0, 0, []), 2), ((1, 4, 0, 0, []), 2), ((23, 71, 2, 1, [(0, 3)]), 3), ((29, 4, 0, 0, []), 0)] 61 _ _ _ (by decide +kernel) ?_
        obtain ⟨⟨vq7, σq7⟩, hq7, h⟩ := px_bind h
        dsimp only at h
        refine Exists.intro 0 (Exists.intro vq7 (Exists.intro σq7 (And.intro (Nat.le_of_ble_eq_true rfl) (And.intro (ok_Mach_storedAt_3 hq7) ?_))))
        exact ok_Mach_takeBytes_3_p69 H ih _ _ _ _ _ _ h
theorem ok_Mach_takeBytes_3_w {l : Launch} {rv : Int} {rσ : pS} {G : Nat → pL → List pV → pS → Prop} (H : px_R l 2 68 rv rσ G) : ∀ (a1 : Int) (σ : pS), f_Mach_takeBytes_3 a1 σ = some (rv, rσ) → G 0 [some (.inr 3), some (.inl a1), none, none, none, none, none] [] σ := by
  intro a1 σ h
  unfold f_Mach_takeBytes_3 at h
  refine H [((0, 0, 0, 0, []), 1), ((3, 2, 0, 0, []), 1), ((0, 0, 0, 0, []), 1), ((3, 3, 0, 0, []), 1)] 0 _ _ _ (by decide +kernel) ?_
  exact ok_Mach_takeBytes_3_p4 H _ _ _ _ _ h
theorem ok_Mach_takeBytes_3 {l : Launch} {a1 : Int} {σ : pS} {v : Int} {σ1 : pS} (h : f_Mach_takeBytes_3 a1 σ = some (v, σ1)) : Con l 2 68 [.inr 3, .inl a1] σ v σ1 := Con_mk 2 7 rfl (by decide +kernel) (fun _ H => ok_Mach_takeBytes_3_w H _ _ h)
def f_Mach_finishOps_3_p2 : Nat → Int → pS → Option (Int × pS)
  | 0, _, _ => none
  | n + 1, a1, σ => if (σ 4 11) ≤ a1 then (some (0, σ)) else (if 0 ≤ a1 ∧ a1 < 20 then (if (σ 39 a1.toNat) = 1 then (if 0 ≤ a1 ∧ a1 < 20 then (if (σ 40 a1.toNat) = (σ 3 11) then (if 0 ≤ a1 ∧ a1 < 20 then (if 0 ≤ a1 ∧ a1 < 20 then (if 0 ≤ a1 ∧ a1 < 20 then (if 0 ≤ a1 ∧ a1 < 20 then ((f_Mach_valueRead_3 (σ 12 a1.toNat) (σ 9 a1.toNat) (pU (pU σ 39 (a1.toNat) 2) 34 (a1.toNat) (σ 3 11))).bind fun q10 => (if 0 ≤ a1 ∧ a1 < 20 then (if 0 ≤ a1 ∧ a1 < 20 then ((f_Mach_valueRead_3 (q10.2 13 a1.toNat) (q10.2 10 a1.toNat) q10.2).bind fun q13 => (if 0 ≤ a1 ∧ a1 < 20 then (if (q13.2 5 a1.toNat) = 2 then ((f_Prog_placeBy_4 a1 q13.1 q13.2).bind fun q25 => (if 0 ≤ a1 ∧ a1 < 20 then ((f_Mach_takeBytes_3 a1 (pU q25.2 37 (a1.toNat) q25.1)).bind fun q27 => (f_Mach_finishOps_3_p2 n (pw (a1 + 1)) q27.2)) else none)) else (if 0 ≤ a1 ∧ a1 < 20 then (if (q13.2 5 a1.toNat) = 3 then ((f_Prog_placeBy_4 a1 q13.1 q13.2).bind fun q20 => (if 0 ≤ a1 ∧ a1 < 20 then ((f_Prog_storedOf_4 a1 q10.1 (pU q20.2 37 (a1.toNat) q20.1)).bind fun q22 => (if 0 ≤ a1 ∧ a1 < 20 then ((f_Mach_lookBack_3 a1 (pU q22.2 36 (a1.toNat) q22.1)).bind fun q24 => (f_Mach_finishOps_3_p2 n (pw (a1 + 1)) q24.2)) else none)) else none)) else ((f_Prog_reckoned_4 a1 q10.1 q13.1 q13.2).bind fun q18 => (if 0 ≤ a1 ∧ a1 < 20 then (f_Mach_finishOps_3_p2 n (pw (a1 + 1)) (pU q18.2 36 (a1.toNat) q18.1)) else none))) else none)) else none)) else none) else none)) else none) else none) else none) else none) else (f_Mach_finishOps_3_p2 n (pw (a1 + 1)) σ)) else none) else (f_Mach_finishOps_3_p2 n (pw (a1 + 1)) σ)) else none)
def f_Mach_finishOps_3 (σ : pS) : Option (Int × pS) := f_Mach_finishOps_3_p2 4096 0 σ
theorem ok_Mach_finishOps_3_p2 {l : Launch} {rv : Int} {rσ : pS} {G : Nat → pL → List pV → pS → Prop} (H : px_R l 4 65 rv rσ G) : ∀ (n : Nat) (a1 : Int) (σ : pS), f_Mach_finishOps_3_p2 n a1 σ = some (rv, rσ) → G 2 [some (.inr 3), some (.inl a1), none, none] [] σ := by
  intro n
  induction n with
  | zero =>
    intro a1 σ h
    unfold f_Mach_finishOps_3_p2 at h
    cases h
  | succ n ih =>
    intro a1 σ h
    unfold f_Mach_finishOps_3_p2 at h
    refine H [((1, 1, 0, 0, []), 1), ((2, 0, 0, 0, []), 1), ((17, 3, 4, 0, []), 3), ((16, 4, 11, 0, []), 3), ((13, 3, 226, 0, []), 3), ((2, 0, 0, 0, []), 1), ((17, 3, 39, 0, []), 3), ((1, 1, 0, 0, []), 1), ((19, 39, 20, 0, []), 1), ((0, 0, 0, 1, []), 1), ((13, 1, 220, 0, []), 3), ((2, 0, 0, 0, []), 1), ((17, 3, 40, 0, []), 3), ((1, 1, 0, 0, []), 1), ((19, 40, 20, 0, []), 1), ((2, 0, 0, 0, []), 1), ((16, 3, 11, 0, []), 3), ((13, 0, 39, 0, []), 3), ((12, 0, 220, 0, []), 3), ((5, 1, 0, 1, []), 3), ((12, 0, 2, 0, []), 3)] 2 _ _ _ (by decide +kernel) ?_
    rcases px_ite h with ⟨c1, h⟩ | ⟨c1, h⟩
    · refine And.intro (fun _ => ?_) (fun hn => absurd c1 hn)
      refine H [((28, 0, 0, 0, []), 1)] 226 _ _ _ (by decide +kernel) ?_
      exact (Prod.mk.inj (Option.some.inj h)).2
    · refine And.intro (fun hp => absurd hp c1) (fun _ => ?_)
      obtain ⟨g2, h⟩ := px_gd h
      refine And.intro g2 ?_
      rcases px_ite h with ⟨c3, h⟩ | ⟨c3, h⟩
      · refine And.intro (fun hp => absurd c3 hp) (fun _ => ?_)
        obtain ⟨g4, h⟩ := px_gd h
        refine And.intro g4 ?_
        rcases px_ite h with ⟨c5, h⟩ | ⟨c5, h⟩
        · refine And.intro (fun _ => ?_) (fun hn => absurd c5 hn)
          refine H [((2, 0, 0, 0, []), 1), ((17, 3, 39, 0, []), 3), ((1, 1, 0, 0, []), 1), ((0, 0, 0, 2, []), 1), ((20, 39, 20, 0, []), 1), ((2, 0, 0, 0, []), 1), ((17, 3, 32, 0, []), 3), ((17, 32, 34, 0, []), 3), ((1, 1, 0, 0, []), 1), ((2, 0, 0, 0, []), 1), ((16, 3, 11, 0, []), 3), ((20, 34, 20, 0, []), 1), ((2, 0, 0, 0, []), 1), ((2, 0, 0, 0, []), 1), ((17, 3, 4, 0, []), 3), ((17, 4, 12, 0, []), 3), ((1, 1, 0, 0, []), 1), ((19, 12, 20, 0, []), 1), ((2, 0, 0, 0, []), 1), ((17, 3, 4, 0, []), 3), ((17, 4, 9, 0, []), 3), ((1, 1, 0, 0, []), 1), ((19, 9, 20, 0, []), 1), ((23, 66, 2, 1, [(0, 3)]), 3), ((3, 2, 0, 0, []), 1), ((2, 0, 0, 0, []), 1), ((2, 0, 0, 0, []), 1), ((17, 3, 4, 0, []), 3), ((17, 4, 13, 0, []), 3), ((1, 1, 0, 0, []), 1), ((19, 13, 20, 0, []), 1), ((2, 0, 0, 0, []), 1), ((17, 3, 4, 0, []), 3), ((17, 4, 10, 0, []), 3), ((1, 1, 0, 0, []), 1), ((19, 10, 20, 0, []), 1), ((23, 66, 2, 1, [(0, 3)]), 3), ((3, 3, 0, 0, []), 1), ((2, 0, 0, 0, []), 1), ((17, 3, 4, 0, []), 3), ((17, 4, 5, 0, []), 3), ((1, 1, 0, 0, []), 1), ((19, 5, 20, 0, []), 1), ((0, 0, 0, 2, []), 1), ((13, 1, 144, 0, []), 3), ((2, 0, 0, 0, []), 1), ((17, 3, 32, 0, []), 3), ((17, 32, 37, 0, []), 3), ((1, 1, 0, 0, []), 1), ((2, 0, 0, 0, []), 1), ((17, 3, 4, 0, []), 3), ((1, 1, 0, 0, []), 1), ((1, 3, 0, 0, []), 1), ((23, 67, 2, 1, [(0, 4)]), 3), ((20, 37, 20, 0, []), 1), ((2, 0, 0, 0, []), 1), ((1, 1, 0, 0, []), 1), ((23, 68, 1, 0, [(0, 3)]), 3), ((12, 0, 220, 0, []), 3), ((5, 1, 0, 1, []), 3), ((12, 0, 2, 0, []), 3), ((29, 2, 0, 0, []), 0), ((29, 3, 0, 0, []), 0)] 39 _ _ _ (by decide +kernel) ?_
          obtain ⟨g6, h⟩ := px_gd h
          refine And.intro g6 ?_
          obtain ⟨g7, h⟩ := px_gd h
          refine And.intro g7 ?_
          obtain ⟨g8, h⟩ := px_gd h
          refine And.intro g8 ?_
          obtain ⟨g9, h⟩ := px_gd h
          refine And.intro g9 ?_
          obtain ⟨⟨vq10, σq10⟩, hq10, h⟩ := px_bind h
          dsimp only at h
          refine Exists.intro 1 (Exists.intro vq10 (Exists.intro σq10 (And.intro (Nat.le_of_ble_eq_true rfl) (And.intro (ok_Mach_valueRead_3 hq10) ?_))))
          obtain ⟨g11, h⟩ := px_gd h
          refine And.intro g11 ?_
          obtain ⟨g12, h⟩ := px_gd h
          refine And.intro g12 ?_
          obtain ⟨⟨vq13, σq13⟩, hq13, h⟩ := px_bind h
          dsimp only at h
          refine Exists.intro 1 (Exists.intro vq13 (Exists.intro σq13 (And.intro (Nat.le_of_ble_eq_true rfl) (And.intro (ok_Mach_valueRead_3 hq13) ?_))))
          obtain ⟨g14, h⟩ := px_gd h
          refine And.intro g14 ?_
          rcases px_ite h with ⟨c15, h⟩ | ⟨c15, h⟩
          · refine And.intro (fun hp => absurd c15 hp) (fun _ => ?_)
            obtain ⟨⟨vq25, σq25⟩, hq25, h⟩ := px_bind h
            dsimp only at h
            refine Exists.intro 0 (Exists.intro vq25 (Exists.intro σq25 (And.intro (Nat.le_of_ble_eq_true rfl) (And.intro (ok_Prog_placeBy_4 hq25) ?_))))
            obtain ⟨g26, h⟩ := px_gd h
            refine And.intro g26 ?_
            obtain ⟨⟨vq27, σq27⟩, hq27, h⟩ := px_bind h
            dsimp only at h
            refine Exists.intro 2 (Exists.intro vq27 (Exists.intro σq27 (And.intro (Nat.le_of_ble_eq_true rfl) (And.intro (ok_Mach_takeBytes_3 hq27) ?_))))
            exact ih _ _ h
          · refine And.intro (fun _ => ?_) (fun hn => absurd c15 hn)
            refine H [((2, 0, 0, 0, []), 1), ((17, 3, 4, 0, []), 3), ((17, 4, 5, 0, []), 3), ((1, 1, 0, 0, []), 1), ((19, 5, 20, 0, []), 1), ((0, 0, 0, 3, []), 1), ((13, 1, 201, 0, []), 3), ((2, 0, 0, 0, []), 1), ((17, 3, 32, 0, []), 3), ((17, 32, 37, 0, []), 3), ((1, 1, 0, 0, []), 1), ((2, 0, 0, 0, []), 1), ((17, 3, 4, 0, []), 3), ((1, 1, 0, 0, []), 1), ((1, 3, 0, 0, []), 1), ((23, 67, 2, 1, [(0, 4)]), 3), ((20, 37, 20, 0, []), 1), ((2, 0, 0, 0, []), 1), ((17, 3, 32, 0, []), 3), ((17, 32, 36, 0, []), 3), ((1, 1, 0, 0, []), 1), ((2, 0, 0, 0, []), 1), ((17, 3, 4, 0, []), 3), ((1, 1, 0, 0, []), 1), ((1, 2, 0, 0, []), 1), ((23, 72, 2, 1, [(0, 4)]), 3), ((20, 36, 20, 0, []), 1), ((2, 0, 0, 0, []), 1), ((1, 1, 0, 0, []), 1), ((23, 73, 1, 0, [(0, 3)]), 3), ((12, 0, 220, 0, []), 3), ((5, 1, 0, 1, []), 3), ((12, 0, 2, 0, []), 3), ((29, 2, 0, 0, []), 0), ((29, 3, 0, 0, []), 0)] 144 _ _ _ (by decide +kernel) ?_
            obtain ⟨g16, h⟩ := px_gd h
            refine And.intro g16 ?_
            rcases px_ite h with ⟨c17, h⟩ | ⟨c17, h⟩
            · refine And.intro (fun hp => absurd c17 hp) (fun _ => ?_)
              obtain ⟨⟨vq20, σq20⟩, hq20, h⟩ := px_bind h
              dsimp only at h
              refine Exists.intro 0 (Exists.intro vq20 (Exists.intro σq20 (And.intro (Nat.le_of_ble_eq_true rfl) (And.intro (ok_Prog_placeBy_4 hq20) ?_))))
              obtain ⟨g21, h⟩ := px_gd h
              refine And.intro g21 ?_
              obtain ⟨⟨vq22, σq22⟩, hq22, h⟩ := px_bind h
              dsimp only at h
              refine Exists.intro 0 (Exists.intro vq22 (Exists.intro σq22 (And.intro (Nat.le_of_ble_eq_true rfl) (And.intro (ok_Prog_storedOf_4 hq22) ?_))))
              obtain ⟨g23, h⟩ := px_gd h
              refine And.intro g23 ?_
              obtain ⟨⟨vq24, σq24⟩, hq24, h⟩ := px_bind h
              dsimp only at h
              refine Exists.intro 3 (Exists.intro vq24 (Exists.intro σq24 (And.intro (Nat.le_of_ble_eq_true rfl) (And.intro (ok_Mach_lookBack_3 hq24) ?_))))
              exact ih _ _ h
            · refine And.intro (fun _ => ?_) (fun hn => absurd c17 hn)
              refine H [((2, 0, 0, 0, []), 1), ((17, 3, 32, 0, []), 3), ((17, 32, 36, 0, []), 3), ((1, 1, 0, 0, []), 1), ((2, 0, 0, 0, []), 1), ((17, 3, 4, 0, []), 3), ((1, 1, 0, 0, []), 1), ((1, 2, 0, 0, []), 1), ((1, 3, 0, 0, []), 1), ((23, 80, 3, 1, [(0, 4)]), 3), ((20, 36, 20, 0, []), 1), ((5, 1, 0, 1, []), 3), ((12, 0, 2, 0, []), 3), ((29, 2, 0, 0, []), 0), ((29, 3, 0, 0, []), 0)] 201 _ _ _ (by decide +kernel) ?_
              obtain ⟨⟨vq18, σq18⟩, hq18, h⟩ := px_bind h
              dsimp only at h
              refine Exists.intro 0 (Exists.intro vq18 (Exists.intro σq18 (And.intro (Nat.le_of_ble_eq_true rfl) (And.intro (ok_Prog_reckoned_4 hq18) ?_))))
              obtain ⟨g19, h⟩ := px_gd h
              refine And.intro g19 ?_
              exact ih _ _ h
        · refine And.intro (fun hp => absurd hp c5) (fun _ => ?_)
          exact ih _ _ h
      · refine And.intro (fun _ => ?_) (fun hn => absurd c3 hn)
        refine H [((5, 1, 0, 1, []), 3), ((12, 0, 2, 0, []), 3)] 220 _ _ _ (by decide +kernel) ?_
        exact ih _ _ h
theorem ok_Mach_finishOps_3_w {l : Launch} {rv : Int} {rσ : pS} {G : Nat → pL → List pV → pS → Prop} (H : px_R l 4 65 rv rσ G) : ∀ (σ : pS), f_Mach_finishOps_3  σ = some (rv, rσ) → G 0 [some (.inr 3), none, none, none] [] σ := by
  intro  σ h
  unfold f_Mach_finishOps_3 at h
  refine H [((0, 0, 0, 0, []), 1), ((3, 1, 0, 0, []), 1)] 0 _ _ _ (by decide +kernel) ?_
  exact ok_Mach_finishOps_3_p2 H _ _ _ h
theorem ok_Mach_finishOps_3 {l : Launch} {σ : pS} {v : Int} {σ1 : pS} (h : f_Mach_finishOps_3  σ = some (v, σ1)) : Con l 4 65 [.inr 3] σ v σ1 := Con_mk 1 4 rfl (by decide +kernel) (fun _ H => ok_Mach_finishOps_3_w H  _ h)
