def f_State_copyCellsFrom_24_28 (σ : pS) : Option (Int × pS) := some (0, pU (pU (pKp (pKp σ 29 25 8) 30 26 64) 24 4 (σ 28 4)) 24 5 (σ 28 5))
theorem ok_State_copyCellsFrom_24_28_w {l : Launch} {rv : Int} {rσ : pS} {G : Nat → pL → List pV → pS → Prop} (H : px_R l 1 62 rv rσ G) : ∀ (σ : pS), f_State_copyCellsFrom_24_28  σ = some (rv, rσ) → G 0 [some (.inr 24), some (.inr 28)] [] σ := by
  intro  σ h
  unfold f_State_copyCellsFrom_24_28 at h
  refine H [((2, 1, 0, 0, []), 1), ((17, 28, 29, 0, []), 3), ((0, 0, 0, 0, []), 1), ((2, 0, 0, 0, []), 1), ((17, 24, 25, 0, []), 3), ((0, 0, 0, 0, []), 1), ((0, 0, 0, 8, []), 2), ((26, 29, 25, 8, []), 3), ((2, 1, 0, 0, []), 1), ((17, 28, 30, 0, []), 3), ((0, 0, 0, 0, []), 1), ((2, 0, 0, 0, []), 1), ((17, 24, 26, 0, []), 3), ((0, 0, 0, 0, []), 1), ((0, 0, 0, 64, []), 2), ((26, 30, 26, 64, []), 3), ((2, 0, 0, 0, []), 1), ((2, 1, 0, 0, []), 1), ((16, 28, 4, 0, []), 3), ((18, 24, 4, 0, []), 3), ((2, 0, 0, 0, []), 1), ((2, 1, 0, 0, []), 1), ((16, 28, 5, 0, []), 3), ((18, 24, 5, 0, []), 3), ((28, 0, 0, 0, []), 1)] 0 _ _ _ (by decide +kernel) ?_
  exact (Prod.mk.inj (Option.some.inj h)).2
theorem ok_State_copyCellsFrom_24_28 {l : Launch} {σ : pS} {v : Int} {σ1 : pS} (h : f_State_copyCellsFrom_24_28  σ = some (v, σ1)) : Con l 1 62 [.inr 24, .inr 28] σ v σ1 := Con_mk 2 2 rfl (by decide +kernel) (fun _ H => ok_State_copyCellsFrom_24_28_w H  _ h)
def f_State_copySetsFrom_24_28 (σ : pS) : Option (Int × pS) := some (0, pU (pKp σ 31 27 20) 24 3 (σ 28 3))
theorem ok_State_copySetsFrom_24_28_w {l : Launch} {rv : Int} {rσ : pS} {G : Nat → pL → List pV → pS → Prop} (H : px_R l 1 63 rv rσ G) : ∀ (σ : pS), f_State_copySetsFrom_24_28  σ = some (rv, rσ) → G 0 [some (.inr 24), some (.inr 28)] [] σ := by
  intro  σ h
  unfold f_State_copySetsFrom_24_28 at h
  refine H [((2, 1, 0, 0, []), 1), ((17, 28, 31, 0, []), 3), ((0, 0, 0, 0, []), 1), ((2, 0, 0, 0, []), 1), ((17, 24, 27, 0, []), 3), ((0, 0, 0, 0, []), 1), ((0, 0, 0, 20, []), 2), ((26, 31, 27, 20, []), 3), ((2, 0, 0, 0, []), 1), ((2, 1, 0, 0, []), 1), ((16, 28, 3, 0, []), 3), ((18, 24, 3, 0, []), 3), ((28, 0, 0, 0, []), 1)] 0 _ _ _ (by decide +kernel) ?_
  exact (Prod.mk.inj (Option.some.inj h)).2
theorem ok_State_copySetsFrom_24_28 {l : Launch} {σ : pS} {v : Int} {σ1 : pS} (h : f_State_copySetsFrom_24_28  σ = some (v, σ1)) : Con l 1 63 [.inr 24, .inr 28] σ v σ1 := Con_mk 2 2 rfl (by decide +kernel) (fun _ H => ok_State_copySetsFrom_24_28_w H  _ h)
def f_State_copyFrom_24_28 (σ : pS) : Option (Int × pS) := (f_State_copyCellsFrom_24_28  σ).bind fun q1 => ((f_State_copySetsFrom_24_28  q1.2).bind fun q2 => (some (0, q2.2)))
theorem ok_State_copyFrom_24_28_w {l : Launch} {rv : Int} {rσ : pS} {G : Nat → pL → List pV → pS → Prop} (H : px_R l 2 61 rv rσ G) : ∀ (σ : pS), f_State_copyFrom_24_28  σ = some (rv, rσ) → G 0 [some (.inr 24), some (.inr 28)] [] σ := by
  intro  σ h
  unfold f_State_copyFrom_24_28 at h
  refine H [((2, 0, 0, 0, []), 1), ((2, 1, 0, 0, []), 1), ((23, 62, 1, 0, [(0, 24)]), 3), ((2, 0, 0, 0, []), 1), ((2, 1, 0, 0, []), 1), ((23, 63, 1, 0, [(0, 24)]), 3), ((28, 0, 0, 0, []), 1)] 0 _ _ _ (by decide +kernel) ?_
  obtain ⟨⟨vq1, σq1⟩, hq1, h⟩ := px_bind h
  dsimp only at h
  refine Exists.intro 1 (Exists.intro vq1 (Exists.intro σq1 (And.intro (Nat.le_of_ble_eq_true rfl) (And.intro (ok_State_copyCellsFrom_24_28 hq1) ?_))))
  obtain ⟨⟨vq2, σq2⟩, hq2, h⟩ := px_bind h
  dsimp only at h
  refine Exists.intro 1 (Exists.intro vq2 (Exists.intro σq2 (And.intro (Nat.le_of_ble_eq_true rfl) (And.intro (ok_State_copySetsFrom_24_28 hq2) ?_))))
  exact (Prod.mk.inj (Option.some.inj h)).2
theorem ok_State_copyFrom_24_28 {l : Launch} {σ : pS} {v : Int} {σ1 : pS} (h : f_State_copyFrom_24_28  σ = some (v, σ1)) : Con l 2 61 [.inr 24, .inr 28] σ v σ1 := Con_mk 2 2 rfl (by decide +kernel) (fun _ H => ok_State_copyFrom_24_28_w H  _ h)
def f_Rep_copyFrom_71_32 (σ : pS) : Option (Int × pS) := some (0, pKp (pKp (pKp (pKp (pKp (pKp σ 33 72 6) 34 73 20) 35 74 20) 36 75 20) 37 76 20) 38 77 80)
theorem ok_Rep_copyFrom_71_32_w {l : Launch} {rv : Int} {rσ : pS} {G : Nat → pL → List pV → pS → Prop} (H : px_R l 1 98 rv rσ G) : ∀ (σ : pS), f_Rep_copyFrom_71_32  σ = some (rv, rσ) → G 0 [some (.inr 71), some (.inr 32)] [] σ := by
  intro  σ h
  unfold f_Rep_copyFrom_71_32 at h
  refine H [((2, 1, 0, 0, []), 1), ((17, 32, 33, 0, []), 3), ((0, 0, 0, 0, []), 1), ((2, 0, 0, 0, []), 1), ((17, 71, 72, 0, []), 3), ((0, 0, 0, 0, []), 1), ((0, 0, 0, 6, []), 2), ((26, 33, 72, 6, []), 3), ((2, 1, 0, 0, []), 1), ((17, 32, 34, 0, []), 3), ((0, 0, 0, 0, []), 1), ((2, 0, 0, 0, []), 1), ((17, 71, 73, 0, []), 3), ((0, 0, 0, 0, []), 1), ((0, 0, 0, 20, []), 2), ((26, 34, 73, 20, []), 3), ((2, 1, 0, 0, []), 1), ((17, 32, 35, 0, []), 3), ((0, 0, 0, 0, []), 1), ((2, 0, 0, 0, []), 1), ((17, 71, 74, 0, []), 3), ((0, 0, 0, 0, []), 1), ((0, 0, 0, 20, []), 2), ((26, 35, 74, 20, []), 3), ((2, 1, 0, 0, []), 1), ((17, 32, 36, 0, []), 3), ((0, 0, 0, 0, []), 1), ((2, 0, 0, 0, []), 1), ((17, 71, 75, 0, []), 3), ((0, 0, 0, 0, []), 1), ((0, 0, 0, 20, []), 2), ((26, 36, 75, 20, []), 3), ((2, 1, 0, 0, []), 1), ((17, 32, 37, 0, []), 3), ((0, 0, 0, 0, []), 1), ((2, 0, 0, 0, []), 1), ((17, 71, 76, 0, []), 3), ((0, 0, 0, 0, []), 1), ((0, 0, 0, 20, []), 2), ((26, 37, 76, 20, []), 3), ((2, 1, 0, 0, []), 1), ((17, 32, 38, 0, []), 3), ((0, 0, 0, 0, []), 1), ((2, 0, 0, 0, []), 1), ((17, 71, 77, 0, []), 3), ((0, 0, 0, 0, []), 1), ((0, 0, 0, 80, []), 2), ((26, 38, 77, 80, []), 3), ((28, 0, 0, 0, []), 1)] 0 _ _ _ (by decide +kernel) ?_
  exact (Prod.mk.inj (Option.some.inj h)).2
theorem ok_Rep_copyFrom_71_32 {l : Launch} {σ : pS} {v : Int} {σ1 : pS} (h : f_Rep_copyFrom_71_32  σ = some (v, σ1)) : Con l 1 98 [.inr 71, .inr 32] σ v σ1 := Con_mk 2 2 rfl (by decide +kernel) (fun _ H => ok_Rep_copyFrom_71_32_w H  _ h)
def f_X_run_0 (a1 : Int) (σ : pS) : Option (Int × pS) := (f_X_canRun_0 a1 σ).bind fun q1 => (if q1.1 = 0 then (some ((-1), q1.2)) else ((f_Mach_go_3 a1 0 q1.2).bind fun q3 => (if q3.1 = (-5) then (some ((-5), pU q3.2 24 5 (q3.2 28 5))) else ((f_State_copyFrom_24_28  q3.2).bind fun q5 => ((f_Rep_copyFrom_71_32  (pU q5.2 24 4 (pMin 9999 (pw ((q5.2 24 4) + 1))))).bind fun q6 => (some (q3.1, pU q6.2 0 8 1)))))))
theorem ok_X_run_0_w {l : Launch} {rv : Int} {rσ : pS} {G : Nat → pL → List pV → pS → Prop} (H : px_R l 6 57 rv rσ G) : ∀ (a1 : Int) (σ : pS), f_X_run_0 a1 σ = some (rv, rσ) → G 0 [some (.inr 0), some (.inl a1), none] [] σ := by
  intro a1 σ h
  unfold f_X_run_0 at h
  refine H [((2, 0, 0, 0, []), 1), ((1, 1, 0, 0, []), 1), ((23, 58, 1, 1, [(0, 0)]), 3), ((14, 1, 10, 0, []), 3), ((0, 0, 0, (-1), []), 1), ((27, 0, 0, 0, []), 1)] 0 _ _ _ (by decide +kernel) ?_
  obtain ⟨⟨vq1, σq1⟩, hq1, h⟩ := px_bind h
  dsimp only at h
  refine Exists.intro 0 (Exists.intro vq1 (Exists.intro σq1 (And.intro (Nat.le_of_ble_eq_true rfl) (And.intro (ok_X_canRun_0 hq1) ?_))))
  rcases px_ite h with ⟨c2, h⟩ | ⟨c2, h⟩
  · refine And.intro (fun hp => absurd c2 hp) (fun _ => ?_)
    exact Prod.mk.inj (Option.some.inj h)
  · refine And.intro (fun _ => ?_) (fun hn => absurd c2 hn)
    refine H [((2, 0, 0, 0, []), 1), ((17, 0, 3, 0, []), 3), ((1, 1, 0, 0, []), 1), ((0, 0, 0, 0, []), 1), ((23, 59, 2, 1, [(0, 3)]), 3), ((3, 2, 0, 0, []), 1), ((1, 2, 0, 0, []), 1), ((0, 0, 0, (-5), []), 2), ((13, 1, 49, 0, []), 3), ((2, 0, 0, 0, []), 1), ((17, 0, 3, 0, []), 3), ((17, 3, 24, 0, []), 3), ((2, 0, 0, 0, []), 1), ((17, 0, 3, 0, []), 3), ((17, 3, 28, 0, []), 3), ((16, 28, 5, 0, []), 3), ((18, 24, 5, 0, []), 3), ((0, 0, 0, (-5), []), 2), ((27, 0, 0, 0, []), 1)] 10 _ _ _ (by decide +kernel) ?_
    obtain ⟨⟨vq3, σq3⟩, hq3, h⟩ := px_bind h
    dsimp only at h
    refine Exists.intro 5 (Exists.intro vq3 (Exists.intro σq3 (And.intro (Nat.le_of_ble_eq_true rfl) (And.intro (ok_Mach_go_3 hq3) ?_))))
    rcases px_ite h with ⟨c4, h⟩ | ⟨c4, h⟩
    · refine And.intro (fun hp => absurd c4 hp) (fun _ => ?_)
      exact Prod.mk.inj (Option.some.inj h)
    · refine And.intro (fun _ => ?_) (fun hn => absurd c4 hn)
      refine H [((2, 0, 0, 0, []), 1), ((17, 0, 3, 0, []), 3), ((17, 3, 24, 0, []), 3), ((2, 0, 0, 0, []), 1), ((17, 0, 3, 0, []), 3), ((17, 3, 28, 0, []), 3), ((23, 61, 1, 0, [(0, 24)]), 3), ((2, 0, 0, 0, []), 1), ((17, 0, 3, 0, []), 3), ((17, 3, 24, 0, []), 3), ((0, 0, 0, 9999, []), 3), ((2, 0, 0, 0, []), 1), ((17, 0, 3, 0, []), 3), ((17, 3, 24, 0, []), 3), ((16, 24, 4, 0, []), 3), ((0, 0, 0, 1, []), 1), ((6, 0, 0, 0, []), 1), ((25, 0, 0, 0, []), 3), ((18, 24, 4, 0, []), 3), ((2, 0, 0, 0, []), 1), ((17, 0, 71, 0, []), 3), ((2, 0, 0, 0, []), 1), ((17, 0, 3, 0, []), 3), ((17, 3, 32, 0, []), 3), ((23, 98, 1, 0, [(0, 71)]), 3), ((2, 0, 0, 0, []), 1), ((0, 0, 0, 1, []), 1), ((18, 0, 8, 1, []), 3), ((1, 2, 0, 0, []), 1), ((27, 0, 0, 0, []), 1)] 49 _ _ _ (by decide +kernel) ?_
      obtain ⟨⟨vq5, σq5⟩, hq5, h⟩ := px_bind h
      dsimp only at h
      refine Exists.intro 2 (Exists.intro vq5 (Exists.intro σq5 (And.intro (Nat.le_of_ble_eq_true rfl) (And.intro (ok_State_copyFrom_24_28 hq5) ?_))))
      obtain ⟨⟨vq6, σq6⟩, hq6, h⟩ := px_bind h
      dsimp only at h
      refine Exists.intro 1 (Exists.intro vq6 (Exists.intro σq6 (And.intro (Nat.le_of_ble_eq_true rfl) (And.intro (ok_Rep_copyFrom_71_32 hq6) ?_))))
      refine And.intro (show (0 : Int) ≤ 1 ∧ (1 : Int) ≤ 1 from by decide) ?_
      exact Prod.mk.inj (Option.some.inj h)
theorem ok_X_run_0 {l : Launch} {a1 : Int} {σ : pS} {v : Int} {σ1 : pS} (h : f_X_run_0 a1 σ = some (v, σ1)) : Con l 6 57 [.inr 0, .inl a1] σ v σ1 := Con_mk 2 3 rfl (by decide +kernel) (fun _ H => ok_X_run_0_w H _ _ h)
def f_M_canRun_84 (a1 : Int) (σ : pS) : Option (Int × pS) := (f_M_in a1 1 4 σ).bind fun q1 => (if q1.1 = 0 then (some (0, q1.2)) else (if (q1.2 84 2) ≤ 0 then (some (0, q1.2)) else (some (1, q1.2))))
theorem ok_M_canRun_84_w {l : Launch} {rv : Int} {rσ : pS} {G : Nat → pL → List pV → pS → Prop} (H : px_R l 1 176 rv rσ G) : ∀ (a1 : Int) (σ : pS), f_M_canRun_84 a1 σ = some (rv, rσ) → G 0 [some (.inr 84), some (.inl a1)] [] σ := by
  intro a1 σ h
  unfold f_M_canRun_84 at h
  refine H [((1, 1, 0, 0, []), 1), ((0, 0, 0, 1, []), 1), ((0, 0, 0, 4, []), 1), ((24, 137, 3, 1, []), 3), ((14, 0, 20, 0, []), 3), ((2, 0, 0, 0, []), 1), ((16, 84, 2, 0, []), 3), ((14, 5, 20, 0, []), 3), ((0, 0, 0, 1, []), 1), ((12, 0, 21, 0, []), 3), ((27, 1, 0, 0, []), 1)] 0 _ _ _ (by decide +kernel) ?_
  obtain ⟨⟨vq1, σq1⟩, hq1, h⟩ := px_bind h
  dsimp only at h
  refine Exists.intro 0 (Exists.intro vq1 (Exists.intro σq1 (And.intro (Nat.le_of_ble_eq_true rfl) (And.intro (ok_M_in hq1) ?_))))
  rcases px_ite h with ⟨c2, h⟩ | ⟨c2, h⟩
  · refine And.intro (fun _ => ?_) (fun hn => absurd c2 hn)
    refine H [((0, 0, 0, 0, []), 1), ((27, 1, 0, 0, []), 1)] 20 _ _ _ (by decide +kernel) ?_
    refine And.intro (show (0 : Int) ≤ 0 ∧ (0 : Int) ≤ 1 from by decide) ?_
    exact Prod.mk.inj (Option.some.inj h)
  · refine And.intro (fun hp => absurd hp c2) (fun _ => ?_)
    rcases px_ite h with ⟨c3, h⟩ | ⟨c3, h⟩
    · refine And.intro (fun _ => ?_) (fun hn => absurd c3 hn)
      refine H [((0, 0, 0, 0, []), 1), ((27, 1, 0, 0, []), 1)] 20 _ _ _ (by decide +kernel) ?_
      refine And.intro (show (0 : Int) ≤ 0 ∧ (0 : Int) ≤ 1 from by decide) ?_
      exact Prod.mk.inj (Option.some.inj h)
    · refine And.intro (fun hp => absurd hp c3) (fun _ => ?_)
      refine And.intro (show (0 : Int) ≤ 1 ∧ (1 : Int) ≤ 1 from by decide) ?_
      exact Prod.mk.inj (Option.some.inj h)
theorem ok_M_canRun_84 {l : Launch} {a1 : Int} {σ : pS} {v : Int} {σ1 : pS} (h : f_M_canRun_84 a1 σ = some (v, σ1)) : Con l 1 176 [.inr 84, .inl a1] σ v σ1 := Con_mk 2 2 rfl (by decide +kernel) (fun _ H => ok_M_canRun_84_w H _ _ h)
def f_M_readBy_84 (a1 a2 : Int) (σ : pS) : Option (Int × pS) := (f_M_giverOf_84 a1 a2 σ).bind fun q1 => (if q1.1 = (-1) then (if 0 ≤ a2 ∧ a2 < 8 then (some (q1.2 85 a2.toNat, q1.2)) else none) else (if 0 ≤ q1.1 ∧ q1.1 < 20 then (some (q1.2 120 q1.1.toNat, q1.2)) else none))
theorem ok_M_readBy_84_w {l : Launch} {rv : Int} {rσ : pS} {G : Nat → pL → List pV → pS → Prop} (H : px_R l 2 180 rv rσ G) : ∀ (a1 a2 : Int) (σ : pS), f_M_readBy_84 a1 a2 σ = some (rv, rσ) → G 0 [some (.inr 84), some (.inl a1), some (.inl a2), none] [] σ := by
  intro a1 a2 σ h
  unfold f_M_readBy_84 at h
  refine H [((2, 0, 0, 0, []), 1), ((1, 1, 0, 0, []), 1), ((1, 2, 0, 0, []), 1), ((23, 173, 2, 1, [(0, 84)]), 3), ((3, 3, 0, 0, []), 1), ((1, 3, 0, 0, []), 1), ((0, 0, 0, (-1), []), 1), ((13, 1, 21, 0, []), 3), ((2, 0, 0, 0, []), 1), ((17, 84, 85, 0, []), 3), ((1, 2, 0, 0, []), 1), ((19, 85, 8, 0, []), 1), ((12, 0, 27, 0, []), 3), ((27, 0, 0, 0, []), 1)] 0 _ _ _ (by decide +kernel) ?_
  obtain ⟨⟨vq1, σq1⟩, hq1, h⟩ := px_bind h
  dsimp only at h
  refine Exists.intro 1 (Exists.intro vq1 (Exists.intro σq1 (And.intro (Nat.le_of_ble_eq_true rfl) (And.intro (ok_M_giverOf_84 hq1) ?_))))
  rcases px_ite h with ⟨c2, h⟩ | ⟨c2, h⟩
  · refine And.intro (fun hp => absurd c2 hp) (fun _ => ?_)
    obtain ⟨g4, h⟩ := px_gd h
    refine And.intro g4 ?_
    exact Prod.mk.inj (Option.some.inj h)
  · refine And.intro (fun _ => ?_) (fun hn => absurd c2 hn)
    refine H [((2, 0, 0, 0, []), 1), ((17, 84, 120, 0, []), 3), ((1, 3, 0, 0, []), 1), ((19, 120, 20, 0, []), 1), ((27, 0, 0, 0, []), 1)] 21 _ _ _ (by decide +kernel) ?_
    obtain ⟨g3, h⟩ := px_gd h
    refine And.intro g3 ?_
    exact Prod.mk.inj (Option.some.inj h)
theorem ok_M_readBy_84 {l : Launch} {a1 a2 : Int} {σ : pS} {v : Int} {σ1 : pS} (h : f_M_readBy_84 a1 a2 σ = some (v, σ1)) : Con l 2 180 [.inr 84, .inl a1, .inl a2] σ v σ1 := Con_mk 3 4 rfl (by decide +kernel) (fun _ H => ok_M_readBy_84_w H _ _ _ h)
def f_M_oldestToRetire_84_p2 : Nat → Int → pS → Option (Int × pS)
  | 0, _, _ => none
  | n + 1, a1, σ => if (σ 84 2) ≤ a1 then (some ((-1), σ)) else (if 0 ≤ a1 ∧ a1 < 20 then (if (σ 88 a1.toNat) = 3 then (if 0 ≤ a1 ∧ a1 < 20 then (if (σ 118 a1.toNat) = 2 then (if 0 ≤ a1 ∧ a1 < 20 then (if (σ 126 a1.toNat) = 0 then (some (a1, σ)) else (f_M_oldestToRetire_84_p2 n (pw (a1 + 1)) σ)) else none) else (f_M_oldestToRetire_84_p2 n (pw (a1 + 1)) σ)) else none) else (f_M_oldestToRetire_84_p2 n (pw (a1 + 1)) σ)) else none)
def f_M_oldestToRetire_84 (σ : pS) : Option (Int × pS) := f_M_oldestToRetire_84_p2 4096 0 σ
theorem ok_M_oldestToRetire_84_p2 {l : Launch} {rv : Int} {rσ : pS} {G : Nat → pL → List pV → pS → Prop} (H : px_R l 0 206 rv rσ G) : ∀ (n : Nat) (a1 : Int) (σ : pS), f_M_oldestToRetire_84_p2 n a1 σ = some (rv, rσ) → G 2 [some (.inr 84), some (.inl a1)] [] σ := by
  intro n
  induction n with
  | zero =>
    intro a1 σ h
    unfold f_M_oldestToRetire_84_p2 at h
    cases h
  | succ n ih =>
    intro a1 σ h
    unfold f_M_oldestToRetire_84_p2 at h
    refine H [((1, 1, 0, 0, []), 1), ((2, 0, 0, 0, []), 1), ((16, 84, 2, 0, []), 3), ((13, 3, 47, 0, []), 3), ((2, 0, 0, 0, []), 1), ((17, 84, 88, 0, []), 3), ((1, 1, 0, 0, []), 1), ((19, 88, 20, 0, []), 1), ((0, 0, 0, 3, []), 1), ((13, 1, 41, 0, []), 3), ((2, 0, 0, 0, []), 1), ((17, 84, 118, 0, []), 3), ((1, 1, 0, 0, []), 1), ((19, 118, 20, 0, []), 1), ((0, 0, 0, 2, []), 1), ((13, 1, 41, 0, []), 3), ((2, 0, 0, 0, []), 1), ((17, 84, 126, 0, []), 3), ((1, 1, 0, 0, []), 1), ((19, 126, 20, 0, []), 1), ((14, 1, 41, 0, []), 3), ((1, 1, 0, 0, []), 1), ((27, 0, 0, 0, []), 1)] 2 _ _ _ (by decide +kernel) ?_
    rcases px_ite h with ⟨c1, h⟩ | ⟨c1, h⟩
    · refine And.intro (fun _ => ?_) (fun hn => absurd c1 hn)
      refine H [((0, 0, 0, (-1), []), 1), ((27, 0, 0, 0, []), 1)] 47 _ _ _ (by decide +kernel) ?_
      exact Prod.mk.inj (Option.some.inj h)
    · refine And.intro (fun hp => absurd hp c1) (fun _ => ?_)
      obtain ⟨g2, h⟩ := px_gd h
      refine And.intro g2 ?_
      rcases px_ite h with ⟨c3, h⟩ | ⟨c3, h⟩
      · refine And.intro (fun hp => absurd c3 hp) (fun _ => ?_)
        obtain ⟨g4, h⟩ := px_gd h
        refine And.intro g4 ?_
        rcases px_ite h with ⟨c5, h⟩ | ⟨c5, h⟩
        · refine And.intro (fun hp => absurd c5 hp) (fun _ => ?_)
          obtain ⟨g6, h⟩ := px_gd h
          refine And.intro g6 ?_
          rcases px_ite h with ⟨c7, h⟩ | ⟨c7, h⟩
          · refine And.intro (fun hp => absurd c7 hp) (fun _ => ?_)
            exact Prod.mk.inj (Option.some.inj h)
          · refine And.intro (fun _ => ?_) (fun hn => absurd c7 hn)
            refine H [((5, 1, 0, 1, []), 3), ((12, 0, 2, 0, []), 3)] 41 _ _ _ (by decide +kernel) ?_
            exact ih _ _ h
        · refine And.intro (fun _ => ?_) (fun hn => absurd c5 hn)
          refine H [((5, 1, 0, 1, []), 3), ((12, 0, 2, 0, []), 3)] 41 _ _ _ (by decide +kernel) ?_
          exact ih _ _ h
      · refine And.intro (fun _ => ?_) (fun hn => absurd c3 hn)
        refine H [((5, 1, 0, 1, []), 3), ((12, 0, 2, 0, []), 3)] 41 _ _ _ (by decide +kernel) ?_
        exact ih _ _ h
theorem ok_M_oldestToRetire_84_w {l : Launch} {rv : Int} {rσ : pS} {G : Nat → pL → List pV → pS → Prop} (H : px_R l 0 206 rv rσ G) : ∀ (σ : pS), f_M_oldestToRetire_84  σ = some (rv, rσ) → G 0 [some (.inr 84), none] [] σ := by
  intro  σ h
  unfold f_M_oldestToRetire_84 at h
  refine H [((0, 0, 0, 0, []), 1), ((3, 1, 0, 0, []), 1)] 0 _ _ _ (by decide +kernel) ?_
  exact ok_M_oldestToRetire_84_p2 H _ _ _ h
theorem ok_M_oldestToRetire_84 {l : Launch} {σ : pS} {v : Int} {σ1 : pS} (h : f_M_oldestToRetire_84  σ = some (v, σ1)) : Con l 0 206 [.inr 84] σ v σ1 := Con_mk 1 2 rfl (by decide +kernel) (fun _ H => ok_M_oldestToRetire_84_w H  _ h)
def f_M_areAllDone_84_p2 : Nat → Int → Int → pS → Option (Int × pS)
  | 0, _, _, _ => none
  | n + 1, a1, a2, σ => if a1 ≤ a2 then (some (1, σ)) else (if 0 ≤ a2 ∧ a2 < 20 then (if (σ 118 a2.toNat) = 2 then (f_M_areAllDone_84_p2 n a1 (pw (a2 + 1)) σ) else (some (0, σ))) else none)
def f_M_areAllDone_84 (a1 : Int) (σ : pS) : Option (Int × pS) := f_M_areAllDone_84_p2 4096 a1 0 σ
theorem ok_M_areAllDone_84_p2 {l : Launch} {rv : Int} {rσ : pS} {G : Nat → pL → List pV → pS → Prop} (H : px_R l 0 207 rv rσ G) : ∀ (n : Nat) (a1 a2 : Int) (σ : pS), f_M_areAllDone_84_p2 n a1 a2 σ = some (rv, rσ) → G 2 [some (.inr 84), some (.inl a1), some (.inl a2)] [] σ := by
  intro n
  induction n with
  | zero =>
    intro a1 a2 σ h
    unfold f_M_areAllDone_84_p2 at h
    cases h
  | succ n ih =>
    intro a1 a2 σ h
    unfold f_M_areAllDone_84_p2 at h
    refine H [((1, 2, 0, 0, []), 1), ((1, 1, 0, 0, []), 1), ((13, 3, 25, 0, []), 3), ((2, 0, 0, 0, []), 1), ((17, 84, 118, 0, []), 3), ((1, 2, 0, 0, []), 1), ((19, 118, 20, 0, []), 1), ((0, 0, 0, 2, []), 1), ((13, 0, 19, 0, []), 3), ((0, 0, 0, 0, []), 1), ((27, 1, 0, 0, []), 1)] 2 _ _ _ (by decide +kernel) ?_
    rcases px_ite h with ⟨c1, h⟩ | ⟨c1, h⟩
    · refine And.intro (fun _ => ?_) (fun hn => absurd c1 hn)
      refine H [((0, 0, 0, 1, []), 1), ((27, 1, 0, 0, []), 1)] 25 _ _ _ (by decide +kernel) ?_
      refine And.intro (show (0 : Int) ≤ 1 ∧ (1 : Int) ≤ 1 from by decide) ?_
      exact Prod.mk.inj (Option.some.inj h)
    · refine And.intro (fun hp => absurd hp c1) (fun _ => ?_)
      obtain ⟨g2, h⟩ := px_gd h
      refine And.intro g2 ?_
      rcases px_ite h with ⟨c3, h⟩ | ⟨c3, h⟩
      · refine And.intro (fun _ => ?_) (fun hn => absurd c3 hn)
        refine H [((5, 2, 0, 1, []), 3), ((12, 0, 2, 0, []), 3)] 19 _ _ _ (by decide +kernel) ?_
        exact ih _ _ _ h
      · refine And.intro (fun hp => absurd hp c3) (fun _ => ?_)
        refine And.intro (show (0 : Int) ≤ 0 ∧ (0 : Int) ≤ 1 from by decide) ?_
        exact Prod.mk.inj (Option.some.inj h)
theorem ok_M_areAllDone_84_w {l : Launch} {rv : Int} {rσ : pS} {G : Nat → pL → List pV → pS → Prop} (H : px_R l 0 207 rv rσ G) : ∀ (a1 : Int) (σ : pS), f_M_areAllDone_84 a1 σ = some (rv, rσ) → G 0 [some (.inr 84), some (.inl a1), none] [] σ := by
  intro a1 σ h
  unfold f_M_areAllDone_84 at h
  refine H [((0, 0, 0, 0, []), 1), ((3, 2, 0, 0, []), 1)] 0 _ _ _ (by decide +kernel) ?_
  exact ok_M_areAllDone_84_p2 H _ _ _ _ h
theorem ok_M_areAllDone_84 {l : Launch} {a1 : Int} {σ : pS} {v : Int} {σ1 : pS} (h : f_M_areAllDone_84 a1 σ = some (v, σ1)) : Con l 0 207 [.inr 84, .inl a1] σ v σ1 := Con_mk 2 3 rfl (by decide +kernel) (fun _ H => ok_M_areAllDone_84_w H _ _ h)
def f_M_undoesTo_84_p26 (k_7 : Int → Int → pS → Option (Int × pS)) : Nat → Int → Int → Int → pS → Option (Int × pS)
  | 0, _, _, _, _ => none
  | n + 1, a1, a2, a3, σ => if 0 ≤ a2 ∧ a2 < 20 then (if (σ 93 a2.toNat) ≤ a3 then (if 0 ≤ a2 ∧ a2 < 20 then (k_7 a1 (pw (a2 + (-1))) (pU (pU σ 126 (a2.toNat) 0) 84 67 (pw ((σ 84 67) + 1)))) else none) else (if 0 ≤ a2 ∧ a2 < 20 then (if 0 ≤ (pw ((pw (4 * a2)) + a3)) ∧ (pw ((pw (4 * a2)) + a3)) < 80 then (if 0 ≤ (pAnd (pw ((σ 132 a2.toNat) + a3)) 63) ∧ (pAnd (pw ((σ 132 a2.toNat) + a3)) 63) < 64 then (f_M_undoesTo_84_p26 k_7 n a1 a2 (pw (a3 + 1)) (pU σ 128 ((pAnd (pw ((σ 132 a2.toNat) + a3)) 63).toNat) (σ 125 (pw ((pw (4 * a2)) + a3)).toNat))) else none) else none) else none)) else none
def f_M_undoesTo_84_p7 : Nat → Int → Int → pS → Option (Int × pS)
  | 0, _, _, _ => none
  | n + 1, a1, a2, σ => if a2 < a1 then (some (0, σ)) else (if 0 ≤ a2 ∧ a2 < 20 then (if (σ 126 a2.toNat) = 0 then (f_M_undoesTo_84_p7 n a1 (pw (a2 + (-1))) σ) else (f_M_undoesTo_84_p26 (f_M_undoesTo_84_p7 n) 4096 a1 a2 0 σ)) else none)
def f_M_undoesTo_84 (a1 : Int) (σ : pS) : Option (Int × pS) := f_M_undoesTo_84_p7 4096 a1 (pw ((σ 84 2) - 1)) σ
theorem ok_M_undoesTo_84_p26 {l : Launch} {rv : Int} {rσ : pS} {G : Nat → pL → List pV → pS → Prop} (H : px_R l 0 196 rv rσ G) {k_7 : Int → Int → pS → Option (Int × pS)} (hk_7 : ∀ (a1 a2 : Int) (σ : pS), k_7 a1 a2 σ = some (rv, rσ) → G 7 [some (.inr 84), some (.inl a1), some (.inl a2), none] [] σ) : ∀ (n : Nat) (a1 a2 a3 : Int) (σ : pS), f_M_undoesTo_84_p26 k_7 n a1 a2 a3 σ = some (rv, rσ) → G 26 [some (.inr 84), some (.inl a1), some (.inl a2), some (.inl a3)] [] σ := by
  intro n
  induction n with
  | zero =>
    intro a1 a2 a3 σ h
    unfold f_M_undoesTo_84_p26 at h
    cases h
  | succ n ih =>
    intro a1 a2 a3 σ h
    unfold f_M_undoesTo_84_p26 at h
    refine H [((1, 3, 0, 0, []), 1), ((2, 0, 0, 0, []), 1), ((17, 84, 93, 0, []), 3), ((1, 2, 0, 0, []), 1), ((19, 93, 20, 0, []), 1), ((13, 3, 68, 0, []), 3), ((2, 0, 0, 0, []), 1), ((17, 84, 128, 0, []), 3), ((2, 0, 0, 0, []), 1), ((17, 84, 132, 0, []), 3), ((1, 2, 0, 0, []), 1), ((19, 132, 20, 0, []), 1), ((1, 3, 0, 0, []), 1), ((6, 0, 0, 0, []), 1), ((0, 0, 0, 63, []), 2), ((6, 3, 0, 0, []), 1), ((2, 0, 0, 0, []), 1), ((17, 84, 125, 0, []), 3), ((0, 0, 0, 4, []), 1), ((1, 2, 0, 0, []), 1), ((6, 2, 0, 0, []), 1), ((1, 3, 0, 0, []), 1), ((6, 0, 0, 0, []), 1), ((19, 125, 80, 0, []), 1), ((20, 128, 64, 0, []), 1), ((5, 3, 0, 1, []), 3), ((12, 0, 26, 0, []), 3)] 26 _ _ _ (by decide +kernel) ?_
    obtain ⟨g4, h⟩ := px_gd h
    refine And.intro g4 ?_
    rcases px_ite h with ⟨c5, h⟩ | ⟨c5, h⟩
    · refine And.intro (fun _ => ?_) (fun hn => absurd c5 hn)
      refine H [((2, 0, 0, 0, []), 1), ((17, 84, 126, 0, []), 3), ((1, 2, 0, 0, []), 1), ((0, 0, 0, 0, []), 1), ((20, 126, 20, 1, []), 1), ((2, 0, 0, 0, []), 1), ((2, 0, 0, 0, []), 1), ((16, 84, 67, 0, []), 3), ((0, 0, 0, 1, []), 1), ((6, 0, 0, 0, []), 1), ((18, 84, 67, 0, []), 3), ((5, 2, 0, (-1), []), 3), ((12, 0, 7, 0, []), 3), ((29, 3, 0, 0, []), 0)] 68 _ _ _ (by decide +kernel) ?_
      obtain ⟨g6, h⟩ := px_gd h
      refine And.intro g6 ?_
      refine And.intro (show (0 : Int) ≤ 0 ∧ (0 : Int) ≤ 1 from by decide) ?_
      exact hk_7 _ _ _ h
    · refine And.intro (fun hp => absurd hp c5) (fun _ => ?_)
      obtain ⟨g7, h⟩ := px_gd h
      refine And.intro g7 ?_
      obtain ⟨g8, h⟩ := px_gd h
      refine And.intro g8 ?_
      obtain ⟨g9, h⟩ := px_gd h
      refine And.intro g9 ?_
      exact ih _ _ _ _ h
theorem ok_M_undoesTo_84_p7 {l : Launch} {rv : Int} {rσ : pS} {G : Nat → pL → List pV → pS → Prop} (H : px_R l 0 196 rv rσ G) : ∀ (n : Nat) (a1 a2 : Int) (σ : pS), f_M_undoesTo_84_p7 n a1 a2 σ = some (rv, rσ) → G 7 [some (.inr 84), some (.inl a1), some (.inl a2), none] [] σ := by
  intro n
  induction n with
  | zero =>
    intro a1 a2 σ h
    unfold f_M_undoesTo_84_p7 at h
    cases h
  | succ n ih =>
    intro a1 a2 σ h
    unfold f_M_undoesTo_84_p7 at h
    refine H [((1, 2, 0, 0, []), 1), ((1, 1, 0, 0, []), 1), ((13, 2, 91, 0, []), 3), ((2, 0, 0, 0, []), 1), ((17, 84, 126, 0, []), 3), ((1, 2, 0, 0, []), 1), ((19, 126, 20, 0, []), 1), ((14, 1, 24, 0, []), 3), ((12, 0, 85, 0, []), 3), ((5, 2, 0, (-1), []), 3), ((12, 0, 7, 0, []), 3)] 7 _ _ _ (by decide +kernel) ?_
    rcases px_ite h with ⟨c1, h⟩ | ⟨c1, h⟩
    · refine And.intro (fun _ => ?_) (fun hn => absurd c1 hn)
      refine H [((28, 0, 0, 0, []), 1)] 91 _ _ _ (by decide +kernel) ?_
      exact (Prod.mk.inj (Option.some.inj h)).2
    · refine And.intro (fun hp => absurd hp c1) (fun _ => ?_)
      obtain ⟨g2, h⟩ := px_gd h
      refine And.intro g2 ?_
      rcases px_ite h with ⟨c3, h⟩ | ⟨c3, h⟩
      · refine And.intro (fun hp => absurd c3 hp) (fun _ => ?_)
        exact ih _ _ _ h
      · refine And.intro (fun _ => ?_) (fun hn => absurd c3 hn)
        refine H [((0, 0, 0, 0, []), 1), ((3, 3, 0, 0, []), 1)] 24 _ _ _ (by decide +kernel) ?_
        exact ok_M_undoesTo_84_p26 H ih _ _ _ _ _ h
theorem ok_M_undoesTo_84_w {l : Launch} {rv : Int} {rσ : pS} {G : Nat → pL → List pV → pS → Prop} (H : px_R l 0 196 rv rσ G) : ∀ (a1 : Int) (σ : pS), f_M_undoesTo_84 a1 σ = some (rv, rσ) → G 0 [some (.inr 84), some (.inl a1), none, none] [] σ := by
  intro a1 σ h
  unfold f_M_undoesTo_84 at h
  refine H [((2, 0, 0, 0, []), 1), ((16, 84, 2, 0, []), 3), ((0, 0, 0, 1, []), 1), ((6, 1, 0, 0, []), 1), ((3, 2, 0, 0, []), 1)] 0 _ _ _ (by decide +kernel) ?_
  exact ok_M_undoesTo_84_p7 H _ _ _ _ h
theorem ok_M_undoesTo_84 {l : Launch} {a1 : Int} {σ : pS} {v : Int} {σ1 : pS} (h : f_M_undoesTo_84 a1 σ = some (v, σ1)) : Con l 0 196 [.inr 84, .inl a1] σ v σ1 := Con_mk 2 4 rfl (by decide +kernel) (fun _ H => ok_M_undoesTo_84_w H _ _ h)
def f_M_byteOf (a0 a1 : Int) (σ : pS) : Option (Int × pS) := some (pAnd (pShr a0 (pw (8 * a1))) 255, σ)
theorem ok_M_byteOf_w {l : Launch} {rv : Int} {rσ : pS} {G : Nat → pL → List pV → pS → Prop} (H : px_R l 0 185 rv rσ G) : ∀ (a0 a1 : Int) (σ : pS), f_M_byteOf a0 a1 σ = some (rv, rσ) → G 0 [some (.inl a0), some (.inl a1)] [] σ := by
  intro a0 a1 σ h
  unfold f_M_byteOf at h
  refine H [((1, 0, 0, 0, []), 1), ((0, 0, 0, 8, []), 2), ((1, 1, 0, 0, []), 1), ((6, 2, 0, 0, []), 1), ((6, 7, 0, 0, []), 1), ((0, 0, 0, 255, []), 3), ((6, 3, 0, 0, []), 1), ((27, 0, 0, 0, []), 1)] 0 _ _ _ (by decide +kernel) ?_
  exact Prod.mk.inj (Option.some.inj h)
theorem ok_M_byteOf {l : Launch} {a0 a1 : Int} {σ : pS} {v : Int} {σ1 : pS} (h : f_M_byteOf a0 a1 σ = some (v, σ1)) : Con l 0 185 [.inl a0, .inl a1] σ v σ1 := Con_mk 2 2 rfl (by decide +kernel) (fun _ H => ok_M_byteOf_w H _ _ _ h)
def f_M_feels_84_p55 (a1 a3 s0 s1 : Int) (σ : pS) : Option (Int × pS) := if 0 ≤ s1 ∧ s1 < 7 then (if 0 ≤ a1 ∧ a1 < 20 then (some (0, pU (pU (pU (pU σ 109 (s1.toNat) s0) 109 4 (σ 123 a1.toNat)) 109 5 (pRem (σ 84 1) 100)) 109 6 a3)) else none) else none
def f_M_feels_84 (a1 a2 a3 : Int) (σ : pS) : Option (Int × pS) := if 0 ≤ a1 ∧ a1 < 20 then (if 0 ≤ a1 ∧ a1 < 20 then (if (σ 87 a1.toNat) = (-1) then (f_M_feels_84_p55 a1 a3 16 3 (pU (pU (pU σ 109 0 a1) 109 1 (σ 88 a1.toNat)) 109 2 (pRem a2 100))) else (if 0 ≤ a1 ∧ a1 < 20 then (f_M_feels_84_p55 a1 a3 (σ 87 a1.toNat) 3 (pU (pU (pU σ 109 0 a1) 109 1 (σ 88 a1.toNat)) 109 2 (pRem a2 100))) else none)) else none) else none
theorem ok_M_feels_84_p55 {l : Launch} {rv : Int} {rσ : pS} {G : Nat → pL → List pV → pS → Prop} (H : px_R l 0 201 rv rσ G) : ∀ (a1 a3 s0 s1 : Int) (σ : pS), f_M_feels_84_p55 a1 a3 s0 s1 σ = some (rv, rσ) → G 55 [some (.inr 84), some (.inl a1), none, some (.inl a3)] [.inl s0, .inl s1, .inr 109] σ := by
  intro a1 a3 s0 s1 σ h
  unfold f_M_feels_84_p55 at h
  refine H [((20, 109, 7, 0, []), 1), ((2, 0, 0, 0, []), 1), ((17, 84, 109, 0, []), 3), ((0, 0, 0, 4, []), 1), ((2, 0, 0, 0, []), 1), ((17, 84, 123, 0, []), 3), ((1, 1, 0, 0, []), 1), ((19, 123, 20, 0, []), 1), ((20, 109, 7, 0, []), 1), ((2, 0, 0, 0, []), 1), ((17, 84, 109, 0, []), 3), ((0, 0, 0, 5, []), 1), ((2, 0, 0, 0, []), 1), ((16, 84, 1, 0, []), 3), ((0, 0, 0, 100, []), 2), ((7, 1, 0, 0, []), 1), ((20, 109, 7, 0, []), 1), ((2, 0, 0, 0, []), 1), ((17, 84, 109, 0, []), 3), ((0, 0, 0, 6, []), 2), ((1, 3, 0, 0, []), 1), ((20, 109, 7, 0, []), 1), ((28, 0, 0, 0, []), 1)] 55 _ _ _ (by decide +kernel) ?_
  obtain ⟨g6, h⟩ := px_gd h
  refine And.intro g6 ?_
  obtain ⟨g7, h⟩ := px_gd h
  refine And.intro g7 ?_
  refine And.intro (show (0 : Int) ≤ 4 ∧ (4 : Int) < 7 from by decide) ?_
  refine And.intro (show (100 : Int) ≠ 0 from by decide) (fun r8 hr8 => ?_)
  replace hr8 : r8 = pRem (σ 84 1) 100 := hr8.trans (px_dr_1 _ _)
  try rw [← hr8] at h
  refine And.intro (show (0 : Int) ≤ 5 ∧ (5 : Int) < 7 from by decide) ?_
  refine And.intro (show (0 : Int) ≤ 6 ∧ (6 : Int) < 7 from by decide) ?_
  exact (Prod.mk.inj (Option.some.inj h)).2
theorem ok_M_feels_84_w {l : Launch} {rv : Int} {rσ : pS} {G : Nat → pL → List pV → pS → Prop} (H : px_R l 0 201 rv rσ G) : ∀ (a1 a2 a3 : Int) (σ : pS), f_M_feels_84 a1 a2 a3 σ = some (rv, rσ) → G 0 [some (.inr 84), some (.inl a1), some (.inl a2), some (.inl a3)] [] σ := by
  intro a1 a2 a3 σ h
  unfold f_M_feels_84 at h
  refine H [((2, 0, 0, 0, []), 1), ((17, 84, 109, 0, []), 3), ((0, 0, 0, 0, []), 1), ((1, 1, 0, 0, []), 1), ((20, 109, 7, 0, []), 1), ((2, 0, 0, 0, []), 1), ((17, 84, 109, 0, []), 3), ((0, 0, 0, 1, []), 1), ((2, 0, 0, 0, []), 1), ((17, 84, 88, 0, []), 3), ((1, 1, 0, 0, []), 1), ((19, 88, 20, 0, []), 1), ((20, 109, 7, 0, []), 1), ((2, 0, 0, 0, []), 1), ((17, 84, 109, 0, []), 3), ((0, 0, 0, 2, []), 1), ((1, 2, 0, 0, []), 1), ((0, 0, 0, 100, []), 2), ((7, 1, 0, 0, []), 1), ((20, 109, 7, 0, []), 1), ((2, 0, 0, 0, []), 1), ((17, 84, 109, 0, []), 3), ((0, 0, 0, 3, []), 1), ((2, 0, 0, 0, []), 1), ((17, 84, 87, 0, []), 3), ((1, 1, 0, 0, []), 1), ((19, 87, 20, 0, []), 1), ((0, 0, 0, (-1), []), 1), ((13, 1, 49, 0, []), 3), ((0, 0, 0, 16, []), 2), ((12, 0, 55, 0, []), 3), ((29, 2, 0, 0, []), 0)] 0 _ _ _ (by decide +kernel) ?_
  refine And.intro (show (0 : Int) ≤ 0 ∧ (0 : Int) < 7 from by decide) ?_
  obtain ⟨g1, h⟩ := px_gd h
  refine And.intro g1 ?_
  refine And.intro (show (0 : Int) ≤ 1 ∧ (1 : Int) < 7 from by decide) ?_
  refine And.intro (show (100 : Int) ≠ 0 from by decide) (fun r2 hr2 => ?_)
  replace hr2 : r2 = pRem a2 100 := hr2.trans (px_dr_1 _ _)
  try rw [← hr2] at h
  refine And.intro (show (0 : Int) ≤ 2 ∧ (2 : Int) < 7 from by decide) ?_
  obtain ⟨g3, h⟩ := px_gd h
  refine And.intro g3 ?_
  rcases px_ite h with ⟨c4, h⟩ | ⟨c4, h⟩
  · refine And.intro (fun hp => absurd c4 hp) (fun _ => ?_)
    exact ok_M_feels_84_p55 H _ _ _ _ _ h
  · refine And.intro (fun _ => ?_) (fun hn => absurd c4 hn)
    refine H [((2, 0, 0, 0, []), 1), ((17, 84, 87, 0, []), 3), ((1, 1, 0, 0, []), 1), ((19, 87, 20, 0, []), 1), ((29, 2, 0, 0, []), 0)] 49 _ _ _ (by decide +kernel) ?_
    obtain ⟨g5, h⟩ := px_gd h
    refine And.intro g5 ?_
    exact ok_M_feels_84_p55 H _ _ _ _ _ h
theorem ok_M_feels_84 {l : Launch} {a1 a2 a3 : Int} {σ : pS} {v : Int} {σ1 : pS} (h : f_M_feels_84 a1 a2 a3 σ = some (v, σ1)) : Con l 0 201 [.inr 84, .inl a1, .inl a2, .inl a3] σ v σ1 := Con_mk 4 4 rfl (by decide +kernel) (fun _ H => ok_M_feels_84_w H _ _ _ _ h)
def f_M_reckon (a0 a1 a2 : Int) (σ : pS) : Option (Int × pS) := if a0 = 2 then (some (pw (a1 + a2), σ)) else (if a0 = 3 then (some (pw (a1 - a2), σ)) else (if a0 = 4 then (some (pw (a1 * a2), σ)) else (if a0 = 5 then (if a2 ≠ 0 then (some (pDiv a1 a2, σ)) else none) else (if a0 = 6 then (if a2 ≠ 0 then (some (pRem a1 a2, σ)) else none) else (if a0 = 7 then (if a2 ≤ a1 then (some (0, σ)) else (some (1, σ))) else (if a0 = 8 then (if a1 ≤ a2 then (some (0, σ)) else (some (1, σ))) else (if a1 = a2 then (some (1, σ)) else (some (0, σ)))))))))
theorem ok_M_reckon_w {l : Launch} {rv : Int} {rσ : pS} {G : Nat → pL → List pV → pS → Prop} (H : px_R l 0 204 rv rσ G) : ∀ (a0 a1 a2 : Int) (σ : pS), f_M_reckon a0 a1 a2 σ = some (rv, rσ) → G 0 [some (.inl a0), some (.inl a1), some (.inl a2)] [] σ := by
  intro a0 a1 a2 σ h
  unfold f_M_reckon at h
  refine H [((1, 0, 0, 0, []), 1), ((15, 0, 86, 0, [(2, 44), (3, 48), (4, 52), (5, 56), (6, 60), (7, 64), (8, 75)]), 43)] 0 _ _ _ (by decide +kernel) ?_
  rcases px_ite h with ⟨c1, h⟩ | ⟨c1, h⟩
  · refine And.intro (fun _ => ?_) (fun hn => absurd c1 hn)
    refine H [((1, 1, 0, 0, []), 1), ((1, 2, 0, 0, []), 1), ((6, 0, 0, 0, []), 1), ((27, 0, 0, 0, []), 1)] 44 _ _ _ (by decide +kernel) ?_
    exact Prod.mk.inj (Option.some.inj h)
  · refine And.intro (fun hp => absurd hp c1) (fun _ => ?_)
    rcases px_ite h with ⟨c2, h⟩ | ⟨c2, h⟩
    · refine And.intro (fun _ => ?_) (fun hn => absurd c2 hn)
      refine H [((1, 1, 0, 0, []), 1), ((1, 2, 0, 0, []), 1), ((6, 1, 0, 0, []), 1), ((27, 0, 0, 0, []), 1)] 48 _ _ _ (by decide +kernel) ?_
      exact Prod.mk.inj (Option.some.inj h)
    · refine And.intro (fun hp => absurd hp c2) (fun _ => ?_)
      rcases px_ite h with ⟨c3, h⟩ | ⟨c3, h⟩
      · refine And.intro (fun _ => ?_) (fun hn => absurd c3 hn)
        refine H [((1, 1, 0, 0, []), 1), ((1, 2, 0, 0, []), 1), ((6, 2, 0, 0, []), 1), ((27, 0, 0, 0, []), 1)] 52 _ _ _ (by decide +kernel) ?_
        exact Prod.mk.inj (Option.some.inj h)
      · refine And.intro (fun hp => absurd hp c3) (fun _ => ?_)
        rcases px_ite h with ⟨c4, h⟩ | ⟨c4, h⟩
        · refine And.intro (fun _ => ?_) (fun hn => absurd c4 hn)
          refine H [((1, 1, 0, 0, []), 1), ((1, 2, 0, 0, []), 1), ((7, 0, 0, 0, []), 1), ((27, 0, 0, 0, []), 1)] 56 _ _ _ (by decide +kernel) ?_
          obtain ⟨g6, h⟩ := px_gd h
          refine And.intro g6 (fun r5 hr5 => ?_)
          replace hr5 : r5 = pDiv a1 a2 := hr5.trans (px_dr_0 _ _)
          try rw [← hr5] at h
          exact Prod.mk.inj (Option.some.inj h)
        · refine And.intro (fun hp => absurd hp c4) (fun _ => ?_)
          rcases px_ite h with ⟨c7, h⟩ | ⟨c7, h⟩
          · refine And.intro (fun _ => ?_) (fun hn => absurd c7 hn)
            refine H [((1, 1, 0, 0, []), 1), ((1, 2, 0, 0, []), 1), ((7, 1, 0, 0, []), 1), ((27, 0, 0, 0, []), 1)] 60 _ _ _ (by decide +kernel) ?_
            obtain ⟨g9, h⟩ := px_gd h
            refine And.intro g9 (fun r8 hr8 => ?_)
            replace hr8 : r8 = pRem a1 a2 := hr8.trans (px_dr_1 _ _)
            try rw [← hr8] at h
            exact Prod.mk.inj (Option.some.inj h)
          · refine And.intro (fun hp => absurd hp c7) (fun _ => ?_)
            rcases px_ite h with ⟨c10, h⟩ | ⟨c10, h⟩
            · refine And.intro (fun _ => ?_) (fun hn => absurd c10 hn)
              refine H [((1, 1, 0, 0, []), 1), ((1, 2, 0, 0, []), 1), ((13, 3, 73, 0, []), 3), ((0, 0, 0, 1, []), 1), ((12, 0, 74, 0, []), 3), ((27, 0, 0, 0, []), 1)] 64 _ _ _ (by decide +kernel) ?_
              rcases px_ite h with ⟨c11, h⟩ | ⟨c11, h⟩
              · refine And.intro (fun _ => ?_) (fun hn => absurd c11 hn)
                refine H [((0, 0, 0, 0, []), 1), ((27, 0, 0, 0, []), 1)] 73 _ _ _ (by decide +kernel) ?_
                exact Prod.mk.inj (Option.some.inj h)
              · refine And.intro (fun hp => absurd hp c11) (fun _ => ?_)
                exact Prod.mk.inj (Option.some.inj h)
            · refine And.intro (fun hp => absurd hp c10) (fun _ => ?_)
              rcases px_ite h with ⟨c12, h⟩ | ⟨c12, h⟩
              · refine And.intro (fun _ => ?_) (fun hn => absurd c12 hn)
                refine H [((1, 1, 0, 0, []), 1), ((1, 2, 0, 0, []), 1), ((13, 5, 84, 0, []), 3), ((0, 0, 0, 1, []), 1), ((12, 0, 85, 0, []), 3), ((27, 0, 0, 0, []), 1)] 75 _ _ _ (by decide +kernel) ?_
                rcases px_ite h with ⟨c13, h⟩ | ⟨c13, h⟩
                · refine And.intro (fun _ => ?_) (fun hn => absurd c13 hn)
                  refine H [((0, 0, 0, 0, []), 1), ((27, 0, 0, 0, []), 1)] 84 _ _ _ (by decide +kernel) ?_
                  exact Prod.mk.inj (Option.some.inj h)
                · refine And.intro (fun hp => absurd hp c13) (fun _ => ?_)
                  exact Prod.mk.inj (Option.some.inj h)
              · refine And.intro (fun hp => absurd hp c12) (fun _ => ?_)
                refine H [((1, 1, 0, 0, []), 1), ((1, 2, 0, 0, []), 1), ((13, 1, 95, 0, []), 3), ((0, 0, 0, 1, []), 1), ((12, 0, 96, 0, []), 3), ((27, 0, 0, 0, []), 1)] 86 _ _ _ (by decide +kernel) ?_
                rcases px_ite h with ⟨c14, h⟩ | ⟨c14, h⟩
                · refine And.intro (fun hp => absurd c14 hp) (fun _ => ?_)
                  exact Prod.mk.inj (Option.some.inj h)
                · refine And.intro (fun _ => ?_) (fun hn => absurd c14 hn)
                  refine H [((0, 0, 0, 0, []), 1), ((27, 0, 0, 0, []), 1)] 95 _ _ _ (by decide +kernel) ?_
                  exact Prod.mk.inj (Option.some.inj h)
theorem ok_M_reckon {l : Launch} {a0 a1 a2 : Int} {σ : pS} {v : Int} {σ1 : pS} (h : f_M_reckon a0 a1 a2 σ = some (v, σ1)) : Con l 0 204 [.inl a0, .inl a1, .inl a2] σ v σ1 := Con_mk 3 3 rfl (by decide +kernel) (fun _ H => ok_M_reckon_w H _ _ _ _ h)
def f_M_reckonsTo_84_p63 (k_16 : Int → Int → Int → Int → pS → Option (Int × pS)) (a2 a3 a4 a5 a6 a7 : Int) (σ : pS) : Option (Int × pS) := if a6 = 0 then (if 0 ≤ a3 ∧ a3 < 260 then (k_16 a2 (pw (a3 + 1)) a4 a5 (pU σ 108 (a3.toNat) a7)) else none) else (if 0 ≤ a7 ∧ a7 < 7 then (if 0 ≤ a3 ∧ a3 < 260 then (k_16 a2 (pw (a3 + 1)) a4 a5 (pU σ 108 (a3.toNat) (σ 109 a7.toNat))) else none) else none)
def f_M_reckonsTo_84_p155 (k_16 : Int → Int → Int → Int → pS → Option (Int × pS)) (a2 a3 a4 a5 a7 s0 s1 : Int) (σ : pS) : Option (Int × pS) := if s1 = s0 then (k_16 a2 a3 a4 (pw (a4 + a7)) σ) else (k_16 a2 (pw (a3 - 1)) a4 a5 σ)
def f_M_reckonsTo_84_p135 (k_16 : Int → Int → Int → Int → pS → Option (Int × pS)) (a2 a3 a4 a5 a6 a7 : Int) (σ : pS) : Option (Int × pS) := if 0 ≤ (pw (a3 - 1)) ∧ (pw (a3 - 1)) < 260 then (if a6 = 12 then (f_M_reckonsTo_84_p155 k_16 a2 a3 a4 a5 a7 1 (σ 108 (pw (a3 - 1)).toNat) σ) else (f_M_reckonsTo_84_p155 k_16 a2 a3 a4 a5 a7 0 (σ 108 (pw (a3 - 1)).toNat) σ)) else none
def f_M_reckonsTo_84_p203 (k_16 : Int → Int → Int → Int → pS → Option (Int × pS)) (a2 a3 a4 a5 a6 : Int) (σ : pS) : Option (Int × pS) := if 0 ≤ (pw (a3 - 1)) ∧ (pw (a3 - 1)) < 260 then (if 0 ≤ a3 ∧ a3 < 260 then ((f_M_reckon a6 (σ 108 (pw (a3 - 1)).toNat) (σ 108 a3.toNat) σ).bind fun q24 => (if 0 ≤ (pw (a3 - 1)) ∧ (pw (a3 - 1)) < 260 then (k_16 a2 a3 a4 a5 (pU q24.2 108 ((pw (a3 - 1)).toNat) q24.1)) else none)) else none) else none
def f_M_reckonsTo_84_p192 (k_16 : Int → Int → Int → Int → pS → Option (Int × pS)) (a2 a3 a4 a5 a6 : Int) (σ : pS) : Option (Int × pS) := if 0 ≤ a3 ∧ a3 < 260 then (if (σ 108 a3.toNat) = 0 then (some (0, σ)) else (f_M_reckonsTo_84_p203 k_16 a2 a3 a4 a5 a6 σ)) else none
def f_M_reckonsTo_84_p16 : Nat → Int → Int → Int → Int → pS → Option (Int × pS)
  | 0, _, _, _, _, _ => none
  | n + 1, a2, a3, a4, a5, σ => if a2 ≤ a5 then (some (σ 108 0, σ)) else (if 0 ≤ a5 ∧ a5 < 260 then (if 0 ≤ a5 ∧ a5 < 260 then (if (pDiv (σ 103 a5.toNat) 1048576) = 0 then (f_M_reckonsTo_84_p63 (f_M_reckonsTo_84_p16 n) a2 a3 a4 (pw (a5 + 1)) (pDiv (σ 103 a5.toNat) 1048576) (pRem (σ 103 a5.toNat) 1048576) σ) else (if (pDiv (σ 103 a5.toNat) 1048576) = 1 then (f_M_reckonsTo_84_p63 (f_M_reckonsTo_84_p16 n) a2 a3 a4 (pw (a5 + 1)) (pDiv (σ 103 a5.toNat) 1048576) (pRem (σ 103 a5.toNat) 1048576) σ) else (if (pDiv (σ 103 a5.toNat) 1048576) = 10 then (if 0 ≤ (pw (a3 - 1)) ∧ (pw (a3 - 1)) < 260 then (if 0 ≤ (pw (a3 - 1)) ∧ (pw (a3 - 1)) < 260 then (f_M_reckonsTo_84_p16 n a2 a3 a4 (pw (a5 + 1)) (pU σ 108 ((pw (a3 - 1)).toNat) (pw (1 - (σ 108 (pw (a3 - 1)).toNat))))) else none) else none) else (if (pDiv (σ 103 a5.toNat) 1048576) = 11 then (f_M_reckonsTo_84_p135 (f_M_reckonsTo_84_p16 n) a2 a3 a4 (pw (a5 + 1)) (pDiv (σ 103 a5.toNat) 1048576) (pRem (σ 103 a5.toNat) 1048576) σ) else (if (pDiv (σ 103 a5.toNat) 1048576) = 12 then (f_M_reckonsTo_84_p135 (f_M_reckonsTo_84_p16 n) a2 a3 a4 (pw (a5 + 1)) (pDiv (σ 103 a5.toNat) 1048576) (pRem (σ 103 a5.toNat) 1048576) σ) else (if (pDiv (σ 103 a5.toNat) 1048576) = 5 then (f_M_reckonsTo_84_p192 (f_M_reckonsTo_84_p16 n) a2 (pw (a3 - 1)) a4 (pw (a5 + 1)) (pDiv (σ 103 a5.toNat) 1048576) σ) else (if (pDiv (σ 103 a5.toNat) 1048576) = 6 then (f_M_reckonsTo_84_p192 (f_M_reckonsTo_84_p16 n) a2 (pw (a3 - 1)) a4 (pw (a5 + 1)) (pDiv (σ 103 a5.toNat) 1048576) σ) else (f_M_reckonsTo_84_p203 (f_M_reckonsTo_84_p16 n) a2 (pw (a3 - 1)) a4 (pw (a5 + 1)) (pDiv (σ 103 a5.toNat) 1048576) σ)))))))) else none) else none)
def f_M_reckonsTo_84 (a1 a2 : Int) (σ : pS) : Option (Int × pS) := f_M_reckonsTo_84_p16 4096 a2 0 (pw (260 * (pDiv a1 260))) a1 σ
theorem ok_M_reckonsTo_84_p63 {l : Launch} {rv : Int} {rσ : pS} {G : Nat → pL → List pV → pS → Prop} (H : px_R l 1 203 rv rσ G) {k_16 : Int → Int → Int → Int → pS → Option (Int × pS)} (hk_16 : ∀ (a2 a3 a4 a5 : Int) (σ : pS), k_16 a2 a3 a4 a5 σ = some (rv, rσ) → G 16 [some (.inr 84), none, some (.inl a2), some (.inl a3), some (.inl a4), some (.inl a5), none, none] [] σ) : ∀ (a2 a3 a4 a5 a6 a7 : Int) (σ : pS), f_M_reckonsTo_84_p63 k_16 a2 a3 a4 a5 a6 a7 σ = some (rv, rσ) → G 63 [some (.inr 84), none, some (.inl a2), some (.inl a3), some (.inl a4), some (.inl a5), some (.inl a6), some (.inl a7)] [] σ := by
  intro a2 a3 a4 a5 a6 a7 σ h
  unfold f_M_reckonsTo_84_p63 at h
  refine H [((2, 0, 0, 0, []), 1), ((17, 84, 108, 0, []), 3), ((1, 3, 0, 0, []), 1), ((1, 6, 0, 0, []), 2), ((14, 1, 78, 0, []), 3), ((1, 7, 0, 0, []), 2), ((12, 0, 85, 0, []), 3), ((20, 108, 260, 0, []), 1), ((1, 3, 0, 0, []), 1), ((0, 0, 0, 1, []), 1), ((6, 0, 0, 0, []), 1), ((3, 3, 0, 0, []), 1), ((12, 0, 230, 0, []), 3), ((12, 0, 16, 0, []), 3), ((29, 6, 0, 0, []), 0), ((29, 7, 0, 0, []), 0)] 63 _ _ _ (by decide +kernel) ?_
  rcases px_ite h with ⟨c8, h⟩ | ⟨c8, h⟩
  · refine And.intro (fun hp => absurd c8 hp) (fun _ => ?_)
    obtain ⟨g11, h⟩ := px_gd h
    refine And.intro g11 ?_
    exact hk_16 _ _ _ _ _ h
  · refine And.intro (fun _ => ?_) (fun hn => absurd c8 hn)
    refine H [((2, 0, 0, 0, []), 1), ((17, 84, 109, 0, []), 3), ((1, 7, 0, 0, []), 2), ((19, 109, 7, 0, []), 1), ((20, 108, 260, 0, []), 1), ((1, 3, 0, 0, []), 1), ((0, 0, 0, 1, []), 1), ((6, 0, 0, 0, []), 1), ((3, 3, 0, 0, []), 1), ((12, 0, 230, 0, []), 3), ((12, 0, 16, 0, []), 3), ((29, 6, 0, 0, []), 0), ((29, 7, 0, 0, []), 0)] 78 _ _ _ (by decide +kernel) ?_
    obtain ⟨g9, h⟩ := px_gd h
    refine And.intro g9 ?_
    obtain ⟨g10, h⟩ := px_gd h
    refine And.intro g10 ?_
    exact hk_16 _ _ _ _ _ h
theorem ok_M_reckonsTo_84_p155 {l : Launch} {rv : Int} {rσ : pS} {G : Nat → pL → List pV → pS → Prop} (H : px_R l 1 203 rv rσ G) {k_16 : Int → Int → Int → Int → pS → Option (Int × pS)} (hk_16 : ∀ (a2 a3 a4 a5 : Int) (σ : pS), k_16 a2 a3 a4 a5 σ = some (rv, rσ) → G 16 [some (.inr 84), none, some (.inl a2), some (.inl a3), some (.inl a4), some (.inl a5), none, none] [] σ) : ∀ (a2 a3 a4 a5 a7 s0 s1 : Int) (σ : pS), f_M_reckonsTo_84_p155 k_16 a2 a3 a4 a5 a7 s0 s1 σ = some (rv, rσ) → G 155 [some (.inr 84), none, some (.inl a2), some (.inl a3), some (.inl a4), some (.inl a5), none, some (.inl a7)] [.inl s0, .inl s1] σ := by
  intro a2 a3 a4 a5 a7 s0 s1 σ h
  unfold f_M_reckonsTo_84_p155 at h
  refine H [((13, 1, 168, 0, []), 3), ((1, 4, 0, 0, []), 2), ((1, 7, 0, 0, []), 2), ((6, 0, 0, 0, []), 1), ((3, 5, 0, 0, []), 2), ((12, 0, 230, 0, []), 3), ((12, 0, 16, 0, []), 3), ((29, 7, 0, 0, []), 0)] 155 _ _ _ (by decide +kernel) ?_
  rcases px_ite h with ⟨c17, h⟩ | ⟨c17, h⟩
  · refine And.intro (fun hp => absurd c17 hp) (fun _ => ?_)
    exact hk_16 _ _ _ _ _ h
  · refine And.intro (fun _ => ?_) (fun hn => absurd c17 hn)
    refine H [((1, 3, 0, 0, []), 1), ((0, 0, 0, 1, []), 1), ((6, 1, 0, 0, []), 1), ((3, 3, 0, 0, []), 1), ((12, 0, 230, 0, []), 3), ((12, 0, 16, 0, []), 3), ((29, 7, 0, 0, []), 0)] 168 _ _ _ (by decide +kernel) ?_
    exact hk_16 _ _ _ _ _ h
theorem ok_M_reckonsTo_84_p135 {l : Launch} {rv : Int} {rσ : pS} {G : Nat → pL → List pV → pS → Prop} (H : px_R l 1 203 rv rσ G) {k_16 : Int → Int → Int → Int → pS → Option (Int × pS)} (hk_16 : ∀ (a2 a3 a4 a5 : Int) (σ : pS), k_16 a2 a3 a4 a5 σ = some (rv, rσ) → G 16 [some (.inr 84), none, some (.inl a2), some (.inl a3), some (.inl a4), some (.inl a5), none, none] [] σ) : ∀ (a2 a3 a4 a5 a6 a7 : Int) (σ : pS), f_M_reckonsTo_84_p135 k_16 a2 a3 a4 a5 a6 a7 σ = some (rv, rσ) → G 135 [some (.inr 84), none, some (.inl a2), some (.inl a3), some (.inl a4), some (.inl a5), some (.inl a6), some (.inl a7)] [] σ := by
  intro a2 a3 a4 a5 a6 a7 σ h
  unfold f_M_reckonsTo_84_p135 at h
  refine H [((2, 0, 0, 0, []), 1), ((17, 84, 108, 0, []), 3), ((1, 3, 0, 0, []), 1), ((0, 0, 0, 1, []), 1), ((6, 1, 0, 0, []), 1), ((19, 108, 260, 0, []), 1), ((1, 6, 0, 0, []), 2), ((0, 0, 0, 12, []), 2), ((13, 1, 154, 0, []), 3), ((0, 0, 0, 1, []), 1), ((12, 0, 155, 0, []), 3), ((29, 6, 0, 0, []), 0)] 135 _ _ _ (by decide +kernel) ?_
  obtain ⟨g15, h⟩ := px_gd h
  refine And.intro g15 ?_
  rcases px_ite h with ⟨c16, h⟩ | ⟨c16, h⟩
  · refine And.intro (fun hp => absurd c16 hp) (fun _ => ?_)
    exact ok_M_reckonsTo_84_p155 H hk_16 _ _ _ _ _ _ _ _ h
  · refine And.intro (fun _ => ?_) (fun hn => absurd c16 hn)
    refine H [((0, 0, 0, 0, []), 1), ((29, 6, 0, 0, []), 0)] 154 _ _ _ (by decide +kernel) ?_
    exact ok_M_reckonsTo_84_p155 H hk_16 _ _ _ _ _ _ _ _ h
theorem ok_M_reckonsTo_84_p203 {l : Launch} {rv : Int} {rσ : pS} {G : Nat → pL → List pV → pS → Prop} (H : px_R l 1 203 rv rσ G) {k_16 : Int → Int → Int → Int → pS → Option (Int × pS)} (hk_16 : ∀ (a2 a3 a4 a5 : Int) (σ : pS), k_16 a2 a3 a4 a5 σ = some (rv, rσ) → G 16 [some (.inr 84), none, some (.inl a2), some (.inl a3), some (.inl a4), some (.inl a5), none, none] [] σ) : ∀ (a2 a3 a4 a5 a6 : Int) (σ : pS), f_M_reckonsTo_84_p203 k_16 a2 a3 a4 a5 a6 σ = some (rv, rσ) → G 203 [some (.inr 84), none, some (.inl a2), some (.inl a3), some (.inl a4), some (.inl a5), some (.inl a6), none] [] σ := by
  intro a2 a3 a4 a5 a6 σ h
  unfold f_M_reckonsTo_84_p203 at h
  refine H [((2, 0, 0, 0, []), 1), ((17, 84, 108, 0, []), 3), ((1, 3, 0, 0, []), 1), ((0, 0, 0, 1, []), 1), ((6, 1, 0, 0, []), 1), ((1, 6, 0, 0, []), 2), ((2, 0, 0, 0, []), 1), ((17, 84, 108, 0, []), 3), ((1, 3, 0, 0, []), 1), ((0, 0, 0, 1, []), 1), ((6, 1, 0, 0, []), 1), ((19, 108, 260, 0, []), 1), ((2, 0, 0, 0, []), 1), ((17, 84, 108, 0, []), 3), ((1, 3, 0, 0, []), 1), ((19, 108, 260, 0, []), 1), ((24, 204, 3, 1, []), 3), ((20, 108, 260, 0, []), 1), ((12, 0, 16, 0, []), 3), ((29, 6, 0, 0, []), 0)] 203 _ _ _ (by decide +kernel) ?_
  obtain ⟨g22, h⟩ := px_gd h
  refine And.intro g22 ?_
  obtain ⟨g23, h⟩ := px_gd h
  refine And.intro g23 ?_
  obtain ⟨⟨vq24, σq24⟩, hq24, h⟩ := px_bind h
  dsimp only at h
  refine Exists.intro 0 (Exists.intro vq24 (Exists.intro σq24 (And.intro (Nat.le_of_ble_eq_true rfl) (And.intro (ok_M_reckon hq24) ?_))))
  obtain ⟨g25, h⟩ := px_gd h
  refine And.intro g25 ?_
  exact hk_16 _ _ _ _ _ h
theorem ok_M_reckonsTo_84_p192 {l : Launch} {rv : Int} {rσ : pS} {G : Nat → pL → List pV → pS → Prop} (H : px_R l 1 203 rv rσ G) {k_16 : Int → Int → Int → Int → pS → Option (Int × pS)} (hk_16 : ∀ (a2 a3 a4 a5 : Int) (σ : pS), k_16 a2 a3 a4 a5 σ = some (rv, rσ) → G 16 [some (.inr 84), none, some (.inl a2), some (.inl a3), some (.inl a4), some (.inl a5), none, none] [] σ) : ∀ (a2 a3 a4 a5 a6 : Int) (σ : pS), f_M_reckonsTo_84_p192 k_16 a2 a3 a4 a5 a6 σ = some (rv, rσ) → G 192 [some (.inr 84), none, some (.inl a2), some (.inl a3), some (.inl a4), some (.inl a5), some (.inl a6), none] [] σ := by
  intro a2 a3 a4 a5 a6 σ h
  unfold f_M_reckonsTo_84_p192 at h
  refine H [((2, 0, 0, 0, []), 1), ((17, 84, 108, 0, []), 3), ((1, 3, 0, 0, []), 1), ((19, 108, 260, 0, []), 1), ((14, 1, 203, 0, []), 3), ((0, 0, 0, 0, []), 1), ((27, 0, 0, 0, []), 1)] 192 _ _ _ (by decide +kernel) ?_
  obtain ⟨g20, h⟩ := px_gd h
  refine And.intro g20 ?_
  rcases px_ite h with ⟨c21, h⟩ | ⟨c21, h⟩
  · refine And.intro (fun hp => absurd c21 hp) (fun _ => ?_)
    exact Prod.mk.inj (Option.some.inj h)
  · refine And.intro (fun _ => ?_) (fun hn => absurd c21 hn)
    exact ok_M_reckonsTo_84_p203 H hk_16 _ _ _ _ _ _ h
theorem ok_M_reckonsTo_84_p16 {l : Launch} {rv : Int} {rσ : pS} {G : Nat → pL → List pV → pS → Prop} (H : px_R l 1 203 rv rσ G) : ∀ (n : Nat) (a2 a3 a4 a5 : Int) (σ : pS), f_M_reckonsTo_84_p16 n a2 a3 a4 a5 σ = some (rv, rσ) → G 16 [some (.inr 84), none, some (.inl a2), some (.inl a3), some (.inl a4), some (.inl a5), none, none] [] σ := by
  intro n
  induction n with
  | zero =>
    intro a2 a3 a4 a5 σ h
    unfold f_M_reckonsTo_84_p16 at h
    cases h
  | succ n ih =>
    intro a2 a3 a4 a5 σ h
    unfold f_M_reckonsTo_84_p16 at h
    refine H [((1, 5, 0, 0, []), 2), ((1, 2, 0, 0, []), 1), ((13, 3, 233, 0, []), 3), ((2, 0, 0, 0, []), 1), ((17, 84, 103, 0, []), 3), ((1, 5, 0, 0, []), 2), ((19, 103, 260, 0, []), 1), ((0, 0, 0, 1048576, []), 2), ((7, 0, 0, 0, []), 1), ((3, 6, 0, 0, []), 2), ((2, 0, 0, 0, []), 1), ((17, 84, 103, 0, []), 3), ((1, 5, 0, 0, []), 2), ((19, 103, 260, 0, []), 1), ((0, 0, 0, 1048576, []), 2), ((7, 1, 0, 0, []), 1), ((3, 7, 0, 0, []), 2), ((1, 5, 0, 0, []), 2), ((0, 0, 0, 1, []), 1), ((6, 0, 0, 0, []), 1), ((3, 5, 0, 0, []), 2), ((1, 6, 0, 0, []), 2), ((14, 0, 63, 0, []), 3), ((1, 6, 0, 0, []), 2), ((0, 0, 0, 1, []), 1), ((13, 1, 93, 0, []), 3)] 16 _ _ _ (by decide +kernel) ?_
    rcases px_ite h with ⟨c2, h⟩ | ⟨c2, h⟩
    · refine And.intro (fun _ => ?_) (fun hn => absurd c2 hn)
      refine H [((2, 0, 0, 0, []), 1), ((17, 84, 108, 0, []), 3), ((0, 0, 0, 0, []), 1), ((19, 108, 260, 0, []), 1), ((27, 0, 0, 0, []), 1)] 233 _ _ _ (by decide +kernel) ?_
      refine And.intro (show (0 : Int) ≤ 0 ∧ (0 : Int) < 260 from by decide) ?_
      exact Prod.mk.inj (Option.some.inj h)
    · refine And.intro (fun hp => absurd hp c2) (fun _ => ?_)
      obtain ⟨g3, h⟩ := px_gd h
      refine And.intro g3 ?_
      refine And.intro (show (1048576 : Int) ≠ 0 from by decide) (fun r4 hr4 => ?_)
      replace hr4 : r4 = pDiv (σ 103 a5.toNat) 1048576 := hr4.trans (px_dr_0 _ _)
      try rw [← hr4] at h
      obtain ⟨g5, h⟩ := px_gd h
      refine And.intro g5 ?_
      refine And.intro (show (1048576 : Int) ≠ 0 from by decide) (fun r6 hr6 => ?_)
      replace hr6 : r6 = pRem (σ 103 a5.toNat) 1048576 := hr6.trans (px_dr_1 _ _)
      try rw [← hr6] at h
      rcases px_ite h with ⟨c7, h⟩ | ⟨c7, h⟩
      · refine And.intro (fun _ => ?_) (fun hn => absurd c7 hn)
        exact ok_M_reckonsTo_84_p63 H ih _ _ _ _ _ _ _ h
      · refine And.intro (fun hp => absurd hp c7) (fun _ => ?_)
        rcases px_ite h with ⟨c12, h⟩ | ⟨c12, h⟩
        · refine And.intro (fun hp => absurd c12 hp) (fun _ => ?_)
          exact ok_M_reckonsTo_84_p63 H ih _ _ _ _ _ _ _ h
        · refine And.intro (fun _ => ?_) (fun hn => absurd c12 hn)
          refine H [((1, 6, 0, 0, []), 2), ((0, 0, 0, 10, []), 2), ((13, 1, 121, 0, []), 3), ((2, 0, 0, 0, []), 1), ((17, 84, 108, 0, []), 3), ((1, 3, 0, 0, []), 1), ((0, 0, 0, 1, []), 1), ((6, 1, 0, 0, []), 1), ((0, 0, 0, 1, []), 1), ((2, 0, 0, 0, []), 1), ((17, 84, 108, 0, []), 3), ((1, 3, 0, 0, []), 1), ((0, 0, 0, 1, []), 1), ((6, 1, 0, 0, []), 1), ((19, 108, 260, 0, []), 1), ((6, 1, 0, 0, []), 1), ((20, 108, 260, 0, []), 1), ((12, 0, 230, 0, []), 3), ((12, 0, 16, 0, []), 3), ((29, 6, 0, 0, []), 0), ((29, 7, 0, 0, []), 0)] 93 _ _ _ (by decide +kernel) ?_
          rcases px_ite h with ⟨c13, h⟩ | ⟨c13, h⟩
          · refine And.intro (fun hp => absurd c13 hp) (fun _ => ?_)
            obtain ⟨g27, h⟩ := px_gd h
            refine And.intro g27 ?_
            obtain ⟨g28, h⟩ := px_gd h
            refine And.intro g28 ?_
            exact ih _ _ _ _ _ h
          · refine And.intro (fun _ => ?_) (fun hn => absurd c13 hn)
            refine H [((1, 6, 0, 0, []), 2), ((0, 0, 0, 11, []), 2), ((13, 0, 135, 0, []), 3), ((1, 6, 0, 0, []), 2), ((0, 0, 0, 12, []), 2), ((13, 1, 175, 0, []), 3)] 121 _ _ _ (by decide +kernel) ?_
            rcases px_ite h with ⟨c14, h⟩ | ⟨c14, h⟩
            · refine And.intro (fun _ => ?_) (fun hn => absurd c14 hn)
              exact ok_M_reckonsTo_84_p135 H ih _ _ _ _ _ _ _ h
            · refine And.intro (fun hp => absurd hp c14) (fun _ => ?_)
              rcases px_ite h with ⟨c18, h⟩ | ⟨c18, h⟩
              · refine And.intro (fun hp => absurd c18 hp) (fun _ => ?_)
                exact ok_M_reckonsTo_84_p135 H ih _ _ _ _ _ _ _ h
              · refine And.intro (fun _ => ?_) (fun hn => absurd c18 hn)
                refine H [((1, 3, 0, 0, []), 1), ((0, 0, 0, 1, []), 1), ((6, 1, 0, 0, []), 1), ((3, 3, 0, 0, []), 1), ((1, 6, 0, 0, []), 2), ((0, 0, 0, 5, []), 1), ((13, 0, 192, 0, []), 3), ((1, 6, 0, 0, []), 2), ((0, 0, 0, 6, []), 2), ((13, 1, 203, 0, []), 3), ((29, 7, 0, 0, []), 0)] 175 _ _ _ (by decide +kernel) ?_
                rcases px_ite h with ⟨c19, h⟩ | ⟨c19, h⟩
                · refine And.intro (fun _ => ?_) (fun hn => absurd c19 hn)
                  refine H [((29, 7, 0, 0, []), 0)] 192 _ _ _ (by decide +kernel) ?_
                  exact ok_M_reckonsTo_84_p192 H ih _ _ _ _ _ _ h
                · refine And.intro (fun hp => absurd hp c19) (fun _ => ?_)
                  rcases px_ite h with ⟨c26, h⟩ | ⟨c26, h⟩
                  · refine And.intro (fun hp => absurd c26 hp) (fun _ => ?_)
                    exact ok_M_reckonsTo_84_p192 H ih _ _ _ _ _ _ h
                  · refine And.intro (fun _ => ?_) (fun hn => absurd c26 hn)
                    refine H [((29, 7, 0, 0, []), 0)] 203 _ _ _ (by decide +kernel) ?_
                    exact ok_M_reckonsTo_84_p203 H ih _ _ _ _ _ _ h
theorem ok_M_reckonsTo_84_w {l : Launch} {rv : Int} {rσ : pS} {G : Nat → pL → List pV → pS → Prop} (H : px_R l 1 203 rv rσ G) : ∀ (a1 a2 : Int) (σ : pS), f_M_reckonsTo_84 a1 a2 σ = some (rv, rσ) → G 0 [some (.inr 84), some (.inl a1), some (.inl a2), none, none, none, none, none] [] σ := by
  intro a1 a2 σ h
  unfold f_M_reckonsTo_84 at h
  refine H [((0, 0, 0, 0, []), 1), ((3, 3, 0, 0, []), 1), ((0, 0, 0, 260, []), 3), ((1, 1, 0, 0, []), 1), ((0, 0, 0, 260, []), 3), ((7, 0, 0, 0, []), 1), ((6, 2, 0, 0, []), 1), ((3, 4, 0, 0, []), 2), ((1, 1, 0, 0, []), 1), ((3, 5, 0, 0, []), 2), ((29, 1, 0, 0, []), 0)] 0 _ _ _ (by decide +kernel) ?_
  refine And.intro (show (260 : Int) ≠ 0 from by decide) (fun r1 hr1 => ?_)
  replace hr1 : r1 = pDiv a1 260 := hr1.trans (px_dr_0 _ _)
  try rw [← hr1] at h
  exact ok_M_reckonsTo_84_p16 H _ _ _ _ _ _ h
theorem ok_M_reckonsTo_84 {l : Launch} {a1 a2 : Int} {σ : pS} {v : Int} {σ1 : pS} (h : f_M_reckonsTo_84 a1 a2 σ = some (v, σ1)) : Con l 1 203 [.inr 84, .inl a1, .inl a2] σ v σ1 := Con_mk 3 8 rfl (by decide +kernel) (fun _ H => ok_M_reckonsTo_84_w H _ _ _ h)
