def f_X_canRun_0 (a1 : Int) (σ : pS) : Option (Int × pS) := if a1 < 1 then (some (0, σ)) else (if 4 < a1 then (some (0, σ)) else (if (σ 4 11) ≤ 0 then (some (0, σ)) else (some (1, σ))))
theorem ok_X_canRun_0_w {l : Launch} {rv : Int} {rσ : pS} {G : Nat → pL → List pV → pS → Prop} (H : px_R l 0 58 rv rσ G) : ∀ (a1 : Int) (σ : pS), f_X_canRun_0 a1 σ = some (rv, rσ) → G 0 [some (.inr 0), some (.inl a1)] [] σ := by
  intro a1 σ h
  unfold f_X_canRun_0 at h
  refine H [((1, 1, 0, 0, []), 1), ((0, 0, 0, 1, []), 1), ((13, 2, 27, 0, []), 3), ((1, 1, 0, 0, []), 1), ((0, 0, 0, 4, []), 1), ((13, 4, 27, 0, []), 3), ((2, 0, 0, 0, []), 1), ((17, 0, 3, 0, []), 3), ((17, 3, 4, 0, []), 3), ((16, 4, 11, 0, []), 3), ((14, 5, 27, 0, []), 3), ((0, 0, 0, 1, []), 1), ((12, 0, 28, 0, []), 3), ((27, 1, 0, 0, []), 1)] 0 _ _ _ (by decide +kernel) ?_
  rcases px_ite h with ⟨c1, h⟩ | ⟨c1, h⟩
  · refine And.intro (fun _ => ?_) (fun hn => absurd c1 hn)
    refine H [((0, 0, 0, 0, []), 1), ((27, 1, 0, 0, []), 1)] 27 _ _ _ (by decide +kernel) ?_
    refine And.intro (show (0 : Int) ≤ 0 ∧ (0 : Int) ≤ 1 from by decide) ?_
    exact Prod.mk.inj (Option.some.inj h)
  · refine And.intro (fun hp => absurd hp c1) (fun _ => ?_)
    rcases px_ite h with ⟨c2, h⟩ | ⟨c2, h⟩
    · refine And.intro (fun _ => ?_) (fun hn => absurd c2 hn)
      refine H [((0, 0, 0, 0, []), 1), ((27, 1, 0, 0, []), 1)] 27 _ _ _ (by decide +kernel) ?_
      refine And.intro (show (0 : Int) ≤ 0 ∧ (0 : Int) ≤ 1 from by decide) ?_
      exact Prod.mk.inj (Option.some.inj h)
    · refine And.intro (fun hp => absurd hp c2) (fun _ => ?_)
      rcases px_ite h with ⟨c3, h⟩ | ⟨c3, h⟩
      · refine And.intro (fun _ => ?_) (fun hn => absurd c3 hn)
        refine H [((0, 0, 0, 0, []), 1), ((27, 1, 0, 0, []), 1)] 27 _ _ _ (by decide +kernel) ?_
        refine And.intro (show (0 : Int) ≤ 0 ∧ (0 : Int) ≤ 1 from by decide) ?_
        exact Prod.mk.inj (Option.some.inj h)
      · refine And.intro (fun hp => absurd hp c3) (fun _ => ?_)
        refine And.intro (show (0 : Int) ≤ 1 ∧ (1 : Int) ≤ 1 from by decide) ?_
        exact Prod.mk.inj (Option.some.inj h)
theorem ok_X_canRun_0 {l : Launch} {a1 : Int} {σ : pS} {v : Int} {σ1 : pS} (h : f_X_canRun_0 a1 σ = some (v, σ1)) : Con l 0 58 [.inr 0, .inl a1] σ v σ1 := Con_mk 2 2 rfl (by decide +kernel) (fun _ H => ok_X_canRun_0_w H _ _ h)
def f_State_copyCellsFrom_28_24 (σ : pS) : Option (Int × pS) := some (0, pU (pU (pKp (pKp σ 25 29 8) 26 30 64) 28 4 (σ 24 4)) 28 5 (σ 24 5))
theorem ok_State_copyCellsFrom_28_24_w {l : Launch} {rv : Int} {rσ : pS} {G : Nat → pL → List pV → pS → Prop} (H : px_R l 1 62 rv rσ G) : ∀ (σ : pS), f_State_copyCellsFrom_28_24  σ = some (rv, rσ) → G 0 [some (.inr 28), some (.inr 24)] [] σ := by
  intro  σ h
  unfold f_State_copyCellsFrom_28_24 at h
  refine H [((2, 1, 0, 0, []), 1), ((17, 24, 25, 0, []), 3), ((0, 0, 0, 0, []), 1), ((2, 0, 0, 0, []), 1), ((17, 28, 29, 0, []), 3), ((0, 0, 0, 0, []), 1), ((0, 0, 0, 8, []), 2), ((26, 25, 29, 8, []), 3), ((2, 1, 0, 0, []), 1), ((17, 24, 26, 0, []), 3), ((0, 0, 0, 0, []), 1), ((2, 0, 0, 0, []), 1), ((17, 28, 30, 0, []), 3), ((0, 0, 0, 0, []), 1), ((0, 0, 0, 64, []), 2), ((26, 26, 30, 64, []), 3), ((2, 0, 0, 0, []), 1), ((2, 1, 0, 0, []), 1), ((16, 24, 4, 0, []), 3), ((18, 28, 4, 0, []), 3), ((2, 0, 0, 0, []), 1), ((2, 1, 0, 0, []), 1), ((16, 24, 5, 0, []), 3), ((18, 28, 5, 0, []), 3), ((28, 0, 0, 0, []), 1)] 0 _ _ _ (by decide +kernel) ?_
  exact (Prod.mk.inj (Option.some.inj h)).2
theorem ok_State_copyCellsFrom_28_24 {l : Launch} {σ : pS} {v : Int} {σ1 : pS} (h : f_State_copyCellsFrom_28_24  σ = some (v, σ1)) : Con l 1 62 [.inr 28, .inr 24] σ v σ1 := Con_mk 2 2 rfl (by decide +kernel) (fun _ H => ok_State_copyCellsFrom_28_24_w H  _ h)
def f_State_copySetsFrom_28_24 (σ : pS) : Option (Int × pS) := some (0, pU (pKp σ 27 31 20) 28 3 (σ 24 3))
theorem ok_State_copySetsFrom_28_24_w {l : Launch} {rv : Int} {rσ : pS} {G : Nat → pL → List pV → pS → Prop} (H : px_R l 1 63 rv rσ G) : ∀ (σ : pS), f_State_copySetsFrom_28_24  σ = some (rv, rσ) → G 0 [some (.inr 28), some (.inr 24)] [] σ := by
  intro  σ h
  unfold f_State_copySetsFrom_28_24 at h
  refine H [((2, 1, 0, 0, []), 1), ((17, 24, 27, 0, []), 3), ((0, 0, 0, 0, []), 1), ((2, 0, 0, 0, []), 1), ((17, 28, 31, 0, []), 3), ((0, 0, 0, 0, []), 1), ((0, 0, 0, 20, []), 2), ((26, 27, 31, 20, []), 3), ((2, 0, 0, 0, []), 1), ((2, 1, 0, 0, []), 1), ((16, 24, 3, 0, []), 3), ((18, 28, 3, 0, []), 3), ((28, 0, 0, 0, []), 1)] 0 _ _ _ (by decide +kernel) ?_
  exact (Prod.mk.inj (Option.some.inj h)).2
theorem ok_State_copySetsFrom_28_24 {l : Launch} {σ : pS} {v : Int} {σ1 : pS} (h : f_State_copySetsFrom_28_24  σ = some (v, σ1)) : Con l 1 63 [.inr 28, .inr 24] σ v σ1 := Con_mk 2 2 rfl (by decide +kernel) (fun _ H => ok_State_copySetsFrom_28_24_w H  _ h)
def f_State_copyFrom_28_24 (σ : pS) : Option (Int × pS) := (f_State_copyCellsFrom_28_24  σ).bind fun q1 => ((f_State_copySetsFrom_28_24  q1.2).bind fun q2 => (some (0, q2.2)))
theorem ok_State_copyFrom_28_24_w {l : Launch} {rv : Int} {rσ : pS} {G : Nat → pL → List pV → pS → Prop} (H : px_R l 2 61 rv rσ G) : ∀ (σ : pS), f_State_copyFrom_28_24  σ = some (rv, rσ) → G 0 [some (.inr 28), some (.inr 24)] [] σ := by
  intro  σ h
  unfold f_State_copyFrom_28_24 at h
  refine H [((2, 0, 0, 0, []), 1), ((2, 1, 0, 0, []), 1), ((23, 62, 1, 0, [(0, 28)]), 3), ((2, 0, 0, 0, []), 1), ((2, 1, 0, 0, []), 1), ((23, 63, 1, 0, [(0, 28)]), 3), ((28, 0, 0, 0, []), 1)] 0 _ _ _ (by decide +kernel) ?_
  obtain ⟨⟨vq1, σq1⟩, hq1, h⟩ := px_bind h
  dsimp only at h
  refine Exists.intro 1 (Exists.intro vq1 (Exists.intro σq1 (And.intro (Nat.le_of_ble_eq_true rfl) (And.intro (ok_State_copyCellsFrom_28_24 hq1) ?_))))
  obtain ⟨⟨vq2, σq2⟩, hq2, h⟩ := px_bind h
  dsimp only at h
  refine Exists.intro 1 (Exists.intro vq2 (Exists.intro σq2 (And.intro (Nat.le_of_ble_eq_true rfl) (And.intro (ok_State_copySetsFrom_28_24 hq2) ?_))))
  exact (Prod.mk.inj (Option.some.inj h)).2
theorem ok_State_copyFrom_28_24 {l : Launch} {σ : pS} {v : Int} {σ1 : pS} (h : f_State_copyFrom_28_24  σ = some (v, σ1)) : Con l 2 61 [.inr 28, .inr 24] σ v σ1 := Con_mk 2 2 rfl (by decide +kernel) (fun _ H => ok_State_copyFrom_28_24_w H  _ h)
def f_Arrays_fill_33_p5 : Nat → Int → Int → Int → pS → Option (Int × pS)
  | 0, _, _, _, _ => none
  | n + 1, a1, a2, a3, σ => if a3 ≤ a2 then (some (0, σ)) else (if 0 ≤ a2 ∧ a2 < 6 then (f_Arrays_fill_33_p5 n a1 (pw (a2 + 1)) a3 (pU σ 33 (a2.toNat) a1)) else none)
def f_Arrays_fill_33 (a1 : Int) (σ : pS) : Option (Int × pS) := f_Arrays_fill_33_p5 4096 a1 0 6 σ
theorem ok_Arrays_fill_33_p5 {l : Launch} {rv : Int} {rσ : pS} {G : Nat → pL → List pV → pS → Prop} (H : px_R l 0 6 rv rσ G) : ∀ (n : Nat) (a1 a2 a3 : Int) (σ : pS), f_Arrays_fill_33_p5 n a1 a2 a3 σ = some (rv, rσ) → G 5 [some (.inr 33), some (.inl a1), some (.inl a2), some (.inl a3)] [] σ := by
  intro n
  induction n with
  | zero =>
    intro a1 a2 a3 σ h
    unfold f_Arrays_fill_33_p5 at h
    cases h
  | succ n ih =>
    intro a1 a2 a3 σ h
    unfold f_Arrays_fill_33_p5 at h
    refine H [((1, 2, 0, 0, []), 1), ((1, 3, 0, 0, []), 1), ((13, 3, 20, 0, []), 3), ((2, 0, 0, 0, []), 1), ((1, 2, 0, 0, []), 1), ((1, 1, 0, 0, []), 1), ((20, 33, 6, 0, []), 1), ((5, 2, 0, 1, []), 3), ((12, 0, 5, 0, []), 3)] 5 _ _ _ (by decide +kernel) ?_
    rcases px_ite h with ⟨c1, h⟩ | ⟨c1, h⟩
    · refine And.intro (fun _ => ?_) (fun hn => absurd c1 hn)
      refine H [((28, 0, 0, 0, []), 1)] 20 _ _ _ (by decide +kernel) ?_
      exact (Prod.mk.inj (Option.some.inj h)).2
    · refine And.intro (fun hp => absurd hp c1) (fun _ => ?_)
      obtain ⟨g2, h⟩ := px_gd h
      refine And.intro g2 ?_
      exact ih _ _ _ _ h
theorem ok_Arrays_fill_33_w {l : Launch} {rv : Int} {rσ : pS} {G : Nat → pL → List pV → pS → Prop} (H : px_R l 0 6 rv rσ G) : ∀ (a1 : Int) (σ : pS), f_Arrays_fill_33 a1 σ = some (rv, rσ) → G 0 [some (.inr 33), some (.inl a1), none, none] [] σ := by
  intro a1 σ h
  unfold f_Arrays_fill_33 at h
  refine H [((0, 0, 0, 0, []), 1), ((3, 2, 0, 0, []), 1), ((2, 0, 0, 0, []), 1), ((21, 33, 6, 0, []), 1), ((3, 3, 0, 0, []), 1)] 0 _ _ _ (by decide +kernel) ?_
  exact ok_Arrays_fill_33_p5 H _ _ _ _ _ h
theorem ok_Arrays_fill_33 {l : Launch} {a1 : Int} {σ : pS} {v : Int} {σ1 : pS} (h : f_Arrays_fill_33 a1 σ = some (v, σ1)) : Con l 0 6 [.inr 33, .inl a1] σ v σ1 := Con_mk 2 4 rfl (by decide +kernel) (fun _ H => ok_Arrays_fill_33_w H _ _ h)
def f_Arrays_fill_34_p5 : Nat → Int → Int → Int → pS → Option (Int × pS)
  | 0, _, _, _, _ => none
  | n + 1, a1, a2, a3, σ => if a3 ≤ a2 then (some (0, σ)) else (if 0 ≤ a2 ∧ a2 < 20 then (f_Arrays_fill_34_p5 n a1 (pw (a2 + 1)) a3 (pU σ 34 (a2.toNat) a1)) else none)
def f_Arrays_fill_34 (a1 : Int) (σ : pS) : Option (Int × pS) := f_Arrays_fill_34_p5 4096 a1 0 20 σ
theorem ok_Arrays_fill_34_p5 {l : Launch} {rv : Int} {rσ : pS} {G : Nat → pL → List pV → pS → Prop} (H : px_R l 0 6 rv rσ G) : ∀ (n : Nat) (a1 a2 a3 : Int) (σ : pS), f_Arrays_fill_34_p5 n a1 a2 a3 σ = some (rv, rσ) → G 5 [some (.inr 34), some (.inl a1), some (.inl a2), some (.inl a3)] [] σ := by
  intro n
  induction n with
  | zero =>
    intro a1 a2 a3 σ h
    unfold f_Arrays_fill_34_p5 at h
    cases h
  | succ n ih =>
    intro a1 a2 a3 σ h
    unfold f_Arrays_fill_34_p5 at h
    refine H [((1, 2, 0, 0, []), 1), ((1, 3, 0, 0, []), 1), ((13, 3, 20, 0, []), 3), ((2, 0, 0, 0, []), 1), ((1, 2, 0, 0, []), 1), ((1, 1, 0, 0, []), 1), ((20, 34, 20, 0, []), 1), ((5, 2, 0, 1, []), 3), ((12, 0, 5, 0, []), 3)] 5 _ _ _ (by decide +kernel) ?_
    rcases px_ite h with ⟨c1, h⟩ | ⟨c1, h⟩
    · refine And.intro (fun _ => ?_) (fun hn => absurd c1 hn)
      refine H [((28, 0, 0, 0, []), 1)] 20 _ _ _ (by decide +kernel) ?_
      exact (Prod.mk.inj (Option.some.inj h)).2
    · refine And.intro (fun hp => absurd hp c1) (fun _ => ?_)
      obtain ⟨g2, h⟩ := px_gd h
      refine And.intro g2 ?_
      exact ih _ _ _ _ h
theorem ok_Arrays_fill_34_w {l : Launch} {rv : Int} {rσ : pS} {G : Nat → pL → List pV → pS → Prop} (H : px_R l 0 6 rv rσ G) : ∀ (a1 : Int) (σ : pS), f_Arrays_fill_34 a1 σ = some (rv, rσ) → G 0 [some (.inr 34), some (.inl a1), none, none] [] σ := by
  intro a1 σ h
  unfold f_Arrays_fill_34 at h
  refine H [((0, 0, 0, 0, []), 1), ((3, 2, 0, 0, []), 1), ((2, 0, 0, 0, []), 1), ((21, 34, 20, 0, []), 1), ((3, 3, 0, 0, []), 1)] 0 _ _ _ (by decide +kernel) ?_
  exact ok_Arrays_fill_34_p5 H _ _ _ _ _ h
theorem ok_Arrays_fill_34 {l : Launch} {a1 : Int} {σ : pS} {v : Int} {σ1 : pS} (h : f_Arrays_fill_34 a1 σ = some (v, σ1)) : Con l 0 6 [.inr 34, .inl a1] σ v σ1 := Con_mk 2 4 rfl (by decide +kernel) (fun _ H => ok_Arrays_fill_34_w H _ _ h)
def f_Arrays_fill_35_p5 : Nat → Int → Int → Int → pS → Option (Int × pS)
  | 0, _, _, _, _ => none
  | n + 1, a1, a2, a3, σ => if a3 ≤ a2 then (some (0, σ)) else (if 0 ≤ a2 ∧ a2 < 20 then (f_Arrays_fill_35_p5 n a1 (pw (a2 + 1)) a3 (pU σ 35 (a2.toNat) a1)) else none)
def f_Arrays_fill_35 (a1 : Int) (σ : pS) : Option (Int × pS) := f_Arrays_fill_35_p5 4096 a1 0 20 σ
theorem ok_Arrays_fill_35_p5 {l : Launch} {rv : Int} {rσ : pS} {G : Nat → pL → List pV → pS → Prop} (H : px_R l 0 6 rv rσ G) : ∀ (n : Nat) (a1 a2 a3 : Int) (σ : pS), f_Arrays_fill_35_p5 n a1 a2 a3 σ = some (rv, rσ) → G 5 [some (.inr 35), some (.inl a1), some (.inl a2), some (.inl a3)] [] σ := by
  intro n
  induction n with
  | zero =>
    intro a1 a2 a3 σ h
    unfold f_Arrays_fill_35_p5 at h
    cases h
  | succ n ih =>
    intro a1 a2 a3 σ h
    unfold f_Arrays_fill_35_p5 at h
    refine H [((1, 2, 0, 0, []), 1), ((1, 3, 0, 0, []), 1), ((13, 3, 20, 0, []), 3), ((2, 0, 0, 0, []), 1), ((1, 2, 0, 0, []), 1), ((1, 1, 0, 0, []), 1), ((20, 35, 20, 0, []), 1), ((5, 2, 0, 1, []), 3), ((12, 0, 5, 0, []), 3)] 5 _ _ _ (by decide +kernel) ?_
    rcases px_ite h with ⟨c1, h⟩ | ⟨c1, h⟩
    · refine And.intro (fun _ => ?_) (fun hn => absurd c1 hn)
      refine H [((28, 0, 0, 0, []), 1)] 20 _ _ _ (by decide +kernel) ?_
      exact (Prod.mk.inj (Option.some.inj h)).2
    · refine And.intro (fun hp => absurd hp c1) (fun _ => ?_)
      obtain ⟨g2, h⟩ := px_gd h
      refine And.intro g2 ?_
      exact ih _ _ _ _ h
theorem ok_Arrays_fill_35_w {l : Launch} {rv : Int} {rσ : pS} {G : Nat → pL → List pV → pS → Prop} (H : px_R l 0 6 rv rσ G) : ∀ (a1 : Int) (σ : pS), f_Arrays_fill_35 a1 σ = some (rv, rσ) → G 0 [some (.inr 35), some (.inl a1), none, none] [] σ := by
  intro a1 σ h
  unfold f_Arrays_fill_35 at h
  refine H [((0, 0, 0, 0, []), 1), ((3, 2, 0, 0, []), 1), ((2, 0, 0, 0, []), 1), ((21, 35, 20, 0, []), 1), ((3, 3, 0, 0, []), 1)] 0 _ _ _ (by decide +kernel) ?_
  exact ok_Arrays_fill_35_p5 H _ _ _ _ _ h
theorem ok_Arrays_fill_35 {l : Launch} {a1 : Int} {σ : pS} {v : Int} {σ1 : pS} (h : f_Arrays_fill_35 a1 σ = some (v, σ1)) : Con l 0 6 [.inr 35, .inl a1] σ v σ1 := Con_mk 2 4 rfl (by decide +kernel) (fun _ H => ok_Arrays_fill_35_w H _ _ h)
def f_Arrays_fill_36_p5 : Nat → Int → Int → Int → pS → Option (Int × pS)
  | 0, _, _, _, _ => none
  | n + 1, a1, a2, a3, σ => if a3 ≤ a2 then (some (0, σ)) else (if 0 ≤ a2 ∧ a2 < 20 then (f_Arrays_fill_36_p5 n a1 (pw (a2 + 1)) a3 (pU σ 36 (a2.toNat) a1)) else none)
def f_Arrays_fill_36 (a1 : Int) (σ : pS) : Option (Int × pS) := f_Arrays_fill_36_p5 4096 a1 0 20 σ
theorem ok_Arrays_fill_36_p5 {l : Launch} {rv : Int} {rσ : pS} {G : Nat → pL → List pV → pS → Prop} (H : px_R l 0 6 rv rσ G) : ∀ (n : Nat) (a1 a2 a3 : Int) (σ : pS), f_Arrays_fill_36_p5 n a1 a2 a3 σ = some (rv, rσ) → G 5 [some (.inr 36), some (.inl a1), some (.inl a2), some (.inl a3)] [] σ := by
  intro n
  induction n with
  | zero =>
    intro a1 a2 a3 σ h
    unfold f_Arrays_fill_36_p5 at h
    cases h
  | succ n ih =>
    intro a1 a2 a3 σ h
    unfold f_Arrays_fill_36_p5 at h
    refine H [((1, 2, 0, 0, []), 1), ((1, 3, 0, 0, []), 1), ((13, 3, 20, 0, []), 3), ((2, 0, 0, 0, []), 1), ((1, 2, 0, 0, []), 1), ((1, 1, 0, 0, []), 1), ((20, 36, 20, 0, []), 1), ((5, 2, 0, 1, []), 3), ((12, 0, 5, 0, []), 3)] 5 _ _ _ (by decide +kernel) ?_
    rcases px_ite h with ⟨c1, h⟩ | ⟨c1, h⟩
    · refine And.intro (fun _ => ?_) (fun hn => absurd c1 hn)
      refine H [((28, 0, 0, 0, []), 1)] 20 _ _ _ (by decide +kernel) ?_
      exact (Prod.mk.inj (Option.some.inj h)).2
    · refine And.intro (fun hp => absurd hp c1) (fun _ => ?_)
      obtain ⟨g2, h⟩ := px_gd h
      refine And.intro g2 ?_
      exact ih _ _ _ _ h
theorem ok_Arrays_fill_36_w {l : Launch} {rv : Int} {rσ : pS} {G : Nat → pL → List pV → pS → Prop} (H : px_R l 0 6 rv rσ G) : ∀ (a1 : Int) (σ : pS), f_Arrays_fill_36 a1 σ = some (rv, rσ) → G 0 [some (.inr 36), some (.inl a1), none, none] [] σ := by
  intro a1 σ h
  unfold f_Arrays_fill_36 at h
  refine H [((0, 0, 0, 0, []), 1), ((3, 2, 0, 0, []), 1), ((2, 0, 0, 0, []), 1), ((21, 36, 20, 0, []), 1), ((3, 3, 0, 0, []), 1)] 0 _ _ _ (by decide +kernel) ?_
  exact ok_Arrays_fill_36_p5 H _ _ _ _ _ h
theorem ok_Arrays_fill_36 {l : Launch} {a1 : Int} {σ : pS} {v : Int} {σ1 : pS} (h : f_Arrays_fill_36 a1 σ = some (v, σ1)) : Con l 0 6 [.inr 36, .inl a1] σ v σ1 := Con_mk 2 4 rfl (by decide +kernel) (fun _ H => ok_Arrays_fill_36_w H _ _ h)
def f_Arrays_fill_37_p5 : Nat → Int → Int → Int → pS → Option (Int × pS)
  | 0, _, _, _, _ => none
  | n + 1, a1, a2, a3, σ => if a3 ≤ a2 then (some (0, σ)) else (if 0 ≤ a2 ∧ a2 < 20 then (f_Arrays_fill_37_p5 n a1 (pw (a2 + 1)) a3 (pU σ 37 (a2.toNat) a1)) else none)
def f_Arrays_fill_37 (a1 : Int) (σ : pS) : Option (Int × pS) := f_Arrays_fill_37_p5 4096 a1 0 20 σ
theorem ok_Arrays_fill_37_p5 {l : Launch} {rv : Int} {rσ : pS} {G : Nat → pL → List pV → pS → Prop} (H : px_R l 0 6 rv rσ G) : ∀ (n : Nat) (a1 a2 a3 : Int) (σ : pS), f_Arrays_fill_37_p5 n a1 a2 a3 σ = some (rv, rσ) → G 5 [some (.inr 37), some (.inl a1), some (.inl a2), some (.inl a3)] [] σ := by
  intro n
  induction n with
  | zero =>
    intro a1 a2 a3 σ h
    unfold f_Arrays_fill_37_p5 at h
    cases h
  | succ n ih =>
    intro a1 a2 a3 σ h
    unfold f_Arrays_fill_37_p5 at h
    refine H [((1, 2, 0, 0, []), 1), ((1, 3, 0, 0, []), 1), ((13, 3, 20, 0, []), 3), ((2, 0, 0, 0, []), 1), ((1, 2, 0, 0, []), 1), ((1, 1, 0, 0, []), 1), ((20, 37, 20, 0, []), 1), ((5, 2, 0, 1, []), 3), ((12, 0, 5, 0, []), 3)] 5 _ _ _ (by decide +kernel) ?_
    rcases px_ite h with ⟨c1, h⟩ | ⟨c1, h⟩
    · refine And.intro (fun _ => ?_) (fun hn => absurd c1 hn)
      refine H [((28, 0, 0, 0, []), 1)] 20 _ _ _ (by decide +kernel) ?_
      exact (Prod.mk.inj (Option.some.inj h)).2
    · refine And.intro (fun hp => absurd hp c1) (fun _ => ?_)
      obtain ⟨g2, h⟩ := px_gd h
      refine And.intro g2 ?_
      exact ih _ _ _ _ h
theorem ok_Arrays_fill_37_w {l : Launch} {rv : Int} {rσ : pS} {G : Nat → pL → List pV → pS → Prop} (H : px_R l 0 6 rv rσ G) : ∀ (a1 : Int) (σ : pS), f_Arrays_fill_37 a1 σ = some (rv, rσ) → G 0 [some (.inr 37), some (.inl a1), none, none] [] σ := by
  intro a1 σ h
  unfold f_Arrays_fill_37 at h
  refine H [((0, 0, 0, 0, []), 1), ((3, 2, 0, 0, []), 1), ((2, 0, 0, 0, []), 1), ((21, 37, 20, 0, []), 1), ((3, 3, 0, 0, []), 1)] 0 _ _ _ (by decide +kernel) ?_
  exact ok_Arrays_fill_37_p5 H _ _ _ _ _ h
theorem ok_Arrays_fill_37 {l : Launch} {a1 : Int} {σ : pS} {v : Int} {σ1 : pS} (h : f_Arrays_fill_37 a1 σ = some (v, σ1)) : Con l 0 6 [.inr 37, .inl a1] σ v σ1 := Con_mk 2 4 rfl (by decide +kernel) (fun _ H => ok_Arrays_fill_37_w H _ _ h)
def f_Arrays_fill_38_p5 : Nat → Int → Int → Int → pS → Option (Int × pS)
  | 0, _, _, _, _ => none
  | n + 1, a1, a2, a3, σ => if a3 ≤ a2 then (some (0, σ)) else (if 0 ≤ a2 ∧ a2 < 80 then (f_Arrays_fill_38_p5 n a1 (pw (a2 + 1)) a3 (pU σ 38 (a2.toNat) a1)) else none)
def f_Arrays_fill_38 (a1 : Int) (σ : pS) : Option (Int × pS) := f_Arrays_fill_38_p5 4096 a1 0 80 σ
theorem ok_Arrays_fill_38_p5 {l : Launch} {rv : Int} {rσ : pS} {G : Nat → pL → List pV → pS → Prop} (H : px_R l 0 6 rv rσ G) : ∀ (n : Nat) (a1 a2 a3 : Int) (σ : pS), f_Arrays_fill_38_p5 n a1 a2 a3 σ = some (rv, rσ) → G 5 [some (.inr 38), some (.inl a1), some (.inl a2), some (.inl a3)] [] σ := by
  intro n
  induction n with
  | zero =>
    intro a1 a2 a3 σ h
    unfold f_Arrays_fill_38_p5 at h
    cases h
  | succ n ih =>
    intro a1 a2 a3 σ h
    unfold f_Arrays_fill_38_p5 at h
    refine H [((1, 2, 0, 0, []), 1), ((1, 3, 0, 0, []), 1), ((13, 3, 20, 0, []), 3), ((2, 0, 0, 0, []), 1), ((1, 2, 0, 0, []), 1), ((1, 1, 0, 0, []), 1), ((20, 38, 80, 0, []), 1), ((5, 2, 0, 1, []), 3), ((12, 0, 5, 0, []), 3)] 5 _ _ _ (by decide +kernel) ?_
    rcases px_ite h with ⟨c1, h⟩ | ⟨c1, h⟩
    · refine And.intro (fun _ => ?_) (fun hn => absurd c1 hn)
      refine H [((28, 0, 0, 0, []), 1)] 20 _ _ _ (by decide +kernel) ?_
      exact (Prod.mk.inj (Option.some.inj h)).2
    · refine And.intro (fun hp => absurd hp c1) (fun _ => ?_)
      obtain ⟨g2, h⟩ := px_gd h
      refine And.intro g2 ?_
      exact ih _ _ _ _ h
theorem ok_Arrays_fill_38_w {l : Launch} {rv : Int} {rσ : pS} {G : Nat → pL → List pV → pS → Prop} (H : px_R l 0 6 rv rσ G) : ∀ (a1 : Int) (σ : pS), f_Arrays_fill_38 a1 σ = some (rv, rσ) → G 0 [some (.inr 38), some (.inl a1), none, none] [] σ := by
  intro a1 σ h
  unfold f_Arrays_fill_38 at h
  refine H [((0, 0, 0, 0, []), 1), ((3, 2, 0, 0, []), 1), ((2, 0, 0, 0, []), 1), ((21, 38, 80, 0, []), 1), ((3, 3, 0, 0, []), 1)] 0 _ _ _ (by decide +kernel) ?_
  exact ok_Arrays_fill_38_p5 H _ _ _ _ _ h
theorem ok_Arrays_fill_38 {l : Launch} {a1 : Int} {σ : pS} {v : Int} {σ1 : pS} (h : f_Arrays_fill_38 a1 σ = some (v, σ1)) : Con l 0 6 [.inr 38, .inl a1] σ v σ1 := Con_mk 2 4 rfl (by decide +kernel) (fun _ H => ok_Arrays_fill_38_w H _ _ h)
def f_Rep_clear_32 (σ : pS) : Option (Int × pS) := (f_Arrays_fill_33 0 σ).bind fun q1 => ((f_Arrays_fill_34 0 q1.2).bind fun q2 => ((f_Arrays_fill_35 0 q2.2).bind fun q3 => ((f_Arrays_fill_36 0 q3.2).bind fun q4 => ((f_Arrays_fill_37 0 q4.2).bind fun q5 => ((f_Arrays_fill_38 (-1) q5.2).bind fun q6 => (some (0, q6.2)))))))
theorem ok_Rep_clear_32_w {l : Launch} {rv : Int} {rσ : pS} {G : Nat → pL → List pV → pS → Prop} (H : px_R l 1 64 rv rσ G) : ∀ (σ : pS), f_Rep_clear_32  σ = some (rv, rσ) → G 0 [some (.inr 32)] [] σ := by
  intro  σ h
  unfold f_Rep_clear_32 at h
  refine H [((2, 0, 0, 0, []), 1), ((17, 32, 33, 0, []), 3), ((0, 0, 0, 0, []), 1), ((24, 6, 2, 0, []), 3), ((2, 0, 0, 0, []), 1), ((17, 32, 34, 0, []), 3), ((0, 0, 0, 0, []), 1), ((24, 6, 2, 0, []), 3), ((2, 0, 0, 0, []), 1), ((17, 32, 35, 0, []), 3), ((0, 0, 0, 0, []), 1), ((24, 6, 2, 0, []), 3), ((2, 0, 0, 0, []), 1), ((17, 32, 36, 0, []), 3), ((0, 0, 0, 0, []), 1), ((24, 6, 2, 0, []), 3), ((2, 0, 0, 0, []), 1), ((17, 32, 37, 0, []), 3), ((0, 0, 0, 0, []), 1), ((24, 6, 2, 0, []), 3), ((2, 0, 0, 0, []), 1), ((17, 32, 38, 0, []), 3), ((0, 0, 0, (-1), []), 1), ((24, 6, 2, 0, []), 3), ((28, 0, 0, 0, []), 1)] 0 _ _ _ (by decide +kernel) ?_
  obtain ⟨⟨vq1, σq1⟩, hq1, h⟩ := px_bind h
  dsimp only at h
  refine Exists.intro 0 (Exists.intro vq1 (Exists.intro σq1 (And.intro (Nat.le_of_ble_eq_true rfl) (And.intro (ok_Arrays_fill_33 hq1) ?_))))
  obtain ⟨⟨vq2, σq2⟩, hq2, h⟩ := px_bind h
  dsimp only at h
  refine Exists.intro 0 (Exists.intro vq2 (Exists.intro σq2 (And.intro (Nat.le_of_ble_eq_true rfl) (And.intro (ok_Arrays_fill_34 hq2) ?_))))
  obtain ⟨⟨vq3, σq3⟩, hq3, h⟩ := px_bind h
  dsimp only at h
  refine Exists.intro 0 (Exists.intro vq3 (Exists.intro σq3 (And.intro (Nat.le_of_ble_eq_true rfl) (And.intro (ok_Arrays_fill_35 hq3) ?_))))
  obtain ⟨⟨vq4, σq4⟩, hq4, h⟩ := px_bind h
  dsimp only at h
  refine Exists.intro 0 (Exists.intro vq4 (Exists.intro σq4 (And.intro (Nat.le_of_ble_eq_true rfl) (And.intro (ok_Arrays_fill_36 hq4) ?_))))
  obtain ⟨⟨vq5, σq5⟩, hq5, h⟩ := px_bind h
  dsimp only at h
  refine Exists.intro 0 (Exists.intro vq5 (Exists.intro σq5 (And.intro (Nat.le_of_ble_eq_true rfl) (And.intro (ok_Arrays_fill_37 hq5) ?_))))
  obtain ⟨⟨vq6, σq6⟩, hq6, h⟩ := px_bind h
  dsimp only at h
  refine Exists.intro 0 (Exists.intro vq6 (Exists.intro σq6 (And.intro (Nat.le_of_ble_eq_true rfl) (And.intro (ok_Arrays_fill_38 hq6) ?_))))
  exact (Prod.mk.inj (Option.some.inj h)).2
theorem ok_Rep_clear_32 {l : Launch} {σ : pS} {v : Int} {σ1 : pS} (h : f_Rep_clear_32  σ = some (v, σ1)) : Con l 1 64 [.inr 32] σ v σ1 := Con_mk 1 1 rfl (by decide +kernel) (fun _ H => ok_Rep_clear_32_w H  _ h)
def f_Arrays_fill_39_p5 : Nat → Int → Int → Int → pS → Option (Int × pS)
  | 0, _, _, _, _ => none
  | n + 1, a1, a2, a3, σ => if a3 ≤ a2 then (some (0, σ)) else (if 0 ≤ a2 ∧ a2 < 20 then (f_Arrays_fill_39_p5 n a1 (pw (a2 + 1)) a3 (pU σ 39 (a2.toNat) a1)) else none)
def f_Arrays_fill_39 (a1 : Int) (σ : pS) : Option (Int × pS) := f_Arrays_fill_39_p5 4096 a1 0 20 σ
theorem ok_Arrays_fill_39_p5 {l : Launch} {rv : Int} {rσ : pS} {G : Nat → pL → List pV → pS → Prop} (H : px_R l 0 6 rv rσ G) : ∀ (n : Nat) (a1 a2 a3 : Int) (σ : pS), f_Arrays_fill_39_p5 n a1 a2 a3 σ = some (rv, rσ) → G 5 [some (.inr 39), some (.inl a1), some (.inl a2), some (.inl a3)] [] σ := by
  intro n
  induction n with
  | zero =>
    intro a1 a2 a3 σ h
    unfold f_Arrays_fill_39_p5 at h
    cases h
  | succ n ih =>
    intro a1 a2 a3 σ h
    unfold f_Arrays_fill_39_p5 at h
    refine H [((1, 2, 0, 0, []), 1), ((1, 3, 0, 0, []), 1), ((13, 3, 20, 0, []), 3), ((2, 0, 0, 0, []), 1), ((1, 2, 0, 0, []), 1), ((1, 1, 0, 0, []), 1), ((20, 39, 20, 0, []), 1), ((5, 2, 0, 1, []), 3), ((12, 0, 5, 0, []), 3)] 5 _ _ _ (by decide +kernel) ?_
    rcases px_ite h with ⟨c1, h⟩ | ⟨c1, h⟩
    · refine And.intro (fun _ => ?_) (fun hn => absurd c1 hn)
      refine H [((28, 0, 0, 0, []), 1)] 20 _ _ _ (by decide +kernel) ?_
      exact (Prod.mk.inj (Option.some.inj h)).2
    · refine And.intro (fun hp => absurd hp c1) (fun _ => ?_)
      obtain ⟨g2, h⟩ := px_gd h
      refine And.intro g2 ?_
      exact ih _ _ _ _ h
theorem ok_Arrays_fill_39_w {l : Launch} {rv : Int} {rσ : pS} {G : Nat → pL → List pV → pS → Prop} (H : px_R l 0 6 rv rσ G) : ∀ (a1 : Int) (σ : pS), f_Arrays_fill_39 a1 σ = some (rv, rσ) → G 0 [some (.inr 39), some (.inl a1), none, none] [] σ := by
  intro a1 σ h
  unfold f_Arrays_fill_39 at h
  refine H [((0, 0, 0, 0, []), 1), ((3, 2, 0, 0, []), 1), ((2, 0, 0, 0, []), 1), ((21, 39, 20, 0, []), 1), ((3, 3, 0, 0, []), 1)] 0 _ _ _ (by decide +kernel) ?_
  exact ok_Arrays_fill_39_p5 H _ _ _ _ _ h
theorem ok_Arrays_fill_39 {l : Launch} {a1 : Int} {σ : pS} {v : Int} {σ1 : pS} (h : f_Arrays_fill_39 a1 σ = some (v, σ1)) : Con l 0 6 [.inr 39, .inl a1] σ v σ1 := Con_mk 2 4 rfl (by decide +kernel) (fun _ H => ok_Arrays_fill_39_w H _ _ h)
def f_Mach_begin_3_p28 : Nat → Int → pS → Option (Int × pS)
  | 0, _, _ => none
  | n + 1, a1, σ => if 20 ≤ a1 then (some (0, σ)) else (if 0 ≤ a1 ∧ a1 < 20 then (f_Mach_begin_3_p28 n (pw (a1 + 1)) (pU σ 41 (a1.toNat) 0)) else none)
def f_Mach_begin_3 (σ : pS) : Option (Int × pS) := (f_State_copyFrom_28_24  σ).bind fun q1 => ((f_Rep_clear_32  q1.2).bind fun q2 => ((f_Arrays_fill_39 0 q2.2).bind fun q3 => (f_Mach_begin_3_p28 4096 0 q3.2)))
theorem ok_Mach_begin_3_p28 {l : Launch} {rv : Int} {rσ : pS} {G : Nat → pL → List pV → pS → Prop} (H : px_R l 3 60 rv rσ G) : ∀ (n : Nat) (a1 : Int) (σ : pS), f_Mach_begin_3_p28 n a1 σ = some (rv, rσ) → G 28 [some (.inr 3), some (.inl a1)] [] σ := by
  intro n
  induction n with
  | zero =>
    intro a1 σ h
    unfold f_Mach_begin_3_p28 at h
    cases h
  | succ n ih =>
    intro a1 σ h
    unfold f_Mach_begin_3_p28 at h
    refine H [((1, 1, 0, 0, []), 1), ((0, 0, 0, 20, []), 2), ((13, 3, 47, 0, []), 3), ((2, 0, 0, 0, []), 1), ((17, 3, 41, 0, []), 3), ((1, 1, 0, 0, []), 1), ((0, 0, 0, 0, []), 1), ((20, 41, 20, 1, []), 1), ((5, 1, 0, 1, []), 3), ((12, 0, 28, 0, []), 3)] 28 _ _ _ (by decide +kernel) ?_
    rcases px_ite h with ⟨c4, h⟩ | ⟨c4, h⟩
    · refine And.intro (fun _ => ?_) (fun hn => absurd c4 hn)
      refine H [((28, 0, 0, 0, []), 1)] 47 _ _ _ (by decide +kernel) ?_
      exact (Prod.mk.inj (Option.some.inj h)).2
    · refine And.intro (fun hp => absurd hp c4) (fun _ => ?_)
      obtain ⟨g5, h⟩ := px_gd h
      refine And.intro g5 ?_
      refine And.intro (show (0 : Int) ≤ 0 ∧ (0 : Int) ≤ 1 from by decide) ?_
      exact ih _ _ h
theorem ok_Mach_begin_3_w {l : Launch} {rv : Int} {rσ : pS} {G : Nat → pL → List pV → pS → Prop} (H : px_R l 3 60 rv rσ G) : ∀ (σ : pS), f_Mach_begin_3  σ = some (rv, rσ) → G 0 [some (.inr 3), none] [] σ := by
  intro  σ h
  unfold f_Mach_begin_3 at h
  refine H [((2, 0, 0, 0, []), 1), ((17, 3, 28, 0, []), 3), ((2, 0, 0, 0, []), 1), ((17, 3, 24, 0, []), 3), ((23, 61, 1, 0, [(0, 28)]), 3), ((2, 0, 0, 0, []), 1), ((17, 3, 32, 0, []), 3), ((23, 64, 0, 0, [(0, 32)]), 3), ((2, 0, 0, 0, []), 1), ((17, 3, 39, 0, []), 3), ((0, 0, 0, 0, []), 1), ((24, 6, 2, 0, []), 3), ((0, 0, 0, 0, []), 1), ((3, 1, 0, 0, []), 1)] 0 _ _ _ (by decide +kernel) ?_
  obtain ⟨⟨vq1, σq1⟩, hq1, h⟩ := px_bind h
  dsimp only at h
  refine Exists.intro 2 (Exists.intro vq1 (Exists.intro σq1 (And.intro (Nat.le_of_ble_eq_true rfl) (And.intro (ok_State_copyFrom_28_24 hq1) ?_))))
  obtain ⟨⟨vq2, σq2⟩, hq2, h⟩ := px_bind h
  dsimp only at h
  refine Exists.intro 1 (Exists.intro vq2 (Exists.intro σq2 (And.intro (Nat.le_of_ble_eq_true rfl) (And.intro (ok_Rep_clear_32 hq2) ?_))))
  obtain ⟨⟨vq3, σq3⟩, hq3, h⟩ := px_bind h
  dsimp only at h
  refine Exists.intro 0 (Exists.intro vq3 (Exists.intro σq3 (And.intro (Nat.le_of_ble_eq_true rfl) (And.intro (ok_Arrays_fill_39 hq3) ?_))))
  exact ok_Mach_begin_3_p28 H _ _ _ h
theorem ok_Mach_begin_3 {l : Launch} {σ : pS} {v : Int} {σ1 : pS} (h : f_Mach_begin_3  σ = some (v, σ1)) : Con l 3 60 [.inr 3] σ v σ1 := Con_mk 1 2 rfl (by decide +kernel) (fun _ H => ok_Mach_begin_3_w H  _ h)
def f_Mach_valueRead_3_p20 (a2 : Int) (σ : pS) : Option (Int × pS) := (f_X_isCell a2 σ).bind fun q2 => (if q2.1 = 0 then (some (0, q2.2)) else (if 0 ≤ a2 ∧ a2 < 8 then (some (q2.2 25 a2.toNat, q2.2)) else none))
def f_Mach_valueRead_3 (a1 a2 : Int) (σ : pS) : Option (Int × pS) := if a1 < 0 then (f_Mach_valueRead_3_p20 a2 σ) else (if 20 ≤ a1 then (f_Mach_valueRead_3_p20 a2 σ) else (if 0 ≤ a1 ∧ a1 < 20 then (some (σ 36 a1.toNat, σ)) else none))
theorem ok_Mach_valueRead_3_p20 {l : Launch} {rv : Int} {rσ : pS} {G : Nat → pL → List pV → pS → Prop} (H : px_R l 1 66 rv rσ G) : ∀ (a2 : Int) (σ : pS), f_Mach_valueRead_3_p20 a2 σ = some (rv, rσ) → G 20 [some (.inr 3), none, some (.inl a2)] [] σ := by
  intro a2 σ h
  unfold f_Mach_valueRead_3_p20 at h
  refine H [((1, 2, 0, 0, []), 1), ((24, 52, 1, 1, []), 3), ((14, 0, 39, 0, []), 3), ((2, 0, 0, 0, []), 1), ((17, 3, 24, 0, []), 3), ((17, 24, 25, 0, []), 3), ((1, 2, 0, 0, []), 1), ((19, 25, 8, 0, []), 1), ((12, 0, 40, 0, []), 3), ((27, 0, 0, 0, []), 1)] 20 _ _ _ (by decide +kernel) ?_
  obtain ⟨⟨vq2, σq2⟩, hq2, h⟩ := px_bind h
  dsimp only at h
  refine Exists.intro 0 (Exists.intro vq2 (Exists.intro σq2 (And.intro (Nat.le_of_ble_eq_true rfl) (And.intro (ok_X_isCell hq2) ?_))))
  rcases px_ite h with ⟨c3, h⟩ | ⟨c3, h⟩
  · refine And.intro (fun _ => ?_) (fun hn => absurd c3 hn)
    refine H [((0, 0, 0, 0, []), 1), ((27, 0, 0, 0, []), 1)] 39 _ _ _ (by decide +kernel) ?_
    exact Prod.mk.inj (Option.some.inj h)
  · refine And.intro (fun hp => absurd hp c3) (fun _ => ?_)
    obtain ⟨g4, h⟩ := px_gd h
    refine And.intro g4 ?_
    exact Prod.mk.inj (Option.some.inj h)
theorem ok_Mach_valueRead_3_w {l : Launch} {rv : Int} {rσ : pS} {G : Nat → pL → List pV → pS → Prop} (H : px_R l 1 66 rv rσ G) : ∀ (a1 a2 : Int) (σ : pS), f_Mach_valueRead_3 a1 a2 σ = some (rv, rσ) → G 0 [some (.inr 3), some (.inl a1), some (.inl a2)] [] σ := by
  intro a1 a2 σ h
  unfold f_Mach_valueRead_3 at h
  refine H [((1, 1, 0, 0, []), 1), ((14, 2, 20, 0, []), 3), ((1, 1, 0, 0, []), 1), ((0, 0, 0, 20, []), 2), ((13, 3, 20, 0, []), 3), ((2, 0, 0, 0, []), 1), ((17, 3, 32, 0, []), 3), ((17, 32, 36, 0, []), 3), ((1, 1, 0, 0, []), 1), ((19, 36, 20, 0, []), 1), ((27, 0, 0, 0, []), 1)] 0 _ _ _ (by decide +kernel) ?_
  rcases px_ite h with ⟨c1, h⟩ | ⟨c1, h⟩
  · refine And.intro (fun _ => ?_) (fun hn => absurd c1 hn)
    refine H [((29, 1, 0, 0, []), 0)] 20 _ _ _ (by decide +kernel) ?_
    exact ok_Mach_valueRead_3_p20 H _ _ h
  · refine And.intro (fun hp => absurd hp c1) (fun _ => ?_)
    rcases px_ite h with ⟨c5, h⟩ | ⟨c5, h⟩
    · refine And.intro (fun _ => ?_) (fun hn => absurd c5 hn)
      refine H [((29, 1, 0, 0, []), 0)] 20 _ _ _ (by decide +kernel) ?_
      exact ok_Mach_valueRead_3_p20 H _ _ h
    · refine And.intro (fun hp => absurd hp c5) (fun _ => ?_)
      obtain ⟨g6, h⟩ := px_gd h
      refine And.intro g6 ?_
      exact Prod.mk.inj (Option.some.inj h)
theorem ok_Mach_valueRead_3 {l : Launch} {a1 a2 : Int} {σ : pS} {v : Int} {σ1 : pS} (h : f_Mach_valueRead_3 a1 a2 σ = some (v, σ1)) : Con l 1 66 [.inr 3, .inl a1, .inl a2] σ v σ1 := Con_mk 3 3 rfl (by decide +kernel) (fun _ H => ok_Mach_valueRead_3_w H _ _ _ h)
def f_Prog_reckoned_4 (a1 a2 a3 : Int) (σ : pS) : Option (Int × pS) := if 0 ≤ a1 ∧ a1 < 20 then (if (σ 6 a1.toNat) = 38 then (some (pAnd a2 a3, σ)) else (if (σ 6 a1.toNat) = 42 then (some (pw (a2 * a3), σ)) else (if (σ 6 a1.toNat) = 43 then (some (pw (a2 + a3), σ)) else (if (σ 6 a1.toNat) = 45 then (some (pw (a2 - a3), σ)) else (if (σ 6 a1.toNat) = 62 then (if a2 ≤ a3 then (some (0, σ)) else (some (1, σ))) else (if (σ 6 a1.toNat) = 94 then (some (pXor a2 a3, σ)) else (if 0 ≤ a1 ∧ a1 < 20 then (some (σ 11 a1.toNat, σ)) else none))))))) else none
theorem ok_Prog_reckoned_4_w {l : Launch} {rv : Int} {rσ : pS} {G : Nat → pL → List pV → pS → Prop} (H : px_R l 0 80 rv rσ G) : ∀ (a1 a2 a3 : Int) (σ : pS), f_Prog_reckoned_4 a1 a2 a3 σ = some (rv, rσ) → G 0 [some (.inr 4), some (.inl a1), some (.inl a2), some (.inl a3)] [] σ := by
  intro a1 a2 a3 σ h
  unfold f_Prog_reckoned_4 at h
  refine H [((2, 0, 0, 0, []), 1), ((17, 4, 6, 0, []), 3), ((1, 1, 0, 0, []), 1), ((19, 6, 20, 0, []), 1), ((15, 0, 95, 0, [(38, 76), (42, 72), (43, 64), (45, 68), (62, 84), (94, 80)]), 58)] 0 _ _ _ (by decide +kernel) ?_
  obtain ⟨g1, h⟩ := px_gd h
  refine And.intro g1 ?_
  rcases px_ite h with ⟨c2, h⟩ | ⟨c2, h⟩
  · refine And.intro (fun _ => ?_) (fun hn => absurd c2 hn)
    refine H [((1, 2, 0, 0, []), 1), ((1, 3, 0, 0, []), 1), ((6, 3, 0, 0, []), 1), ((27, 0, 0, 0, []), 1)] 76 _ _ _ (by decide +kernel) ?_
    exact Prod.mk.inj (Option.some.inj h)
  · refine And.intro (fun hp => absurd hp c2) (fun _ => ?_)
    rcases px_ite h with ⟨c3, h⟩ | ⟨c3, h⟩
    · refine And.intro (fun _ => ?_) (fun hn => absurd c3 hn)
      refine H [((1, 2, 0, 0, []), 1), ((1, 3, 0, 0, []), 1), ((6, 2, 0, 0, []), 1), ((27, 0, 0, 0, []), 1)] 72 _ _ _ (by decide +kernel) ?_
      exact Prod.mk.inj (Option.some.inj h)
    · refine And.intro (fun hp => absurd hp c3) (fun _ => ?_)
      rcases px_ite h with ⟨c4, h⟩ | ⟨c4, h⟩
      · refine And.intro (fun _ => ?_) (fun hn => absurd c4 hn)
        refine H [((1, 2, 0, 0, []), 1), ((1, 3, 0, 0, []), 1), ((6, 0, 0, 0, []), 1), ((27, 0, 0, 0, []), 1)] 64 _ _ _ (by decide +kernel) ?_
        exact Prod.mk.inj (Option.some.inj h)
      · refine And.intro (fun hp => absurd hp c4) (fun _ => ?_)
        rcases px_ite h with ⟨c5, h⟩ | ⟨c5, h⟩
        · refine And.intro (fun _ => ?_) (fun hn => absurd c5 hn)
          refine H [((1, 2, 0, 0, []), 1), ((1, 3, 0, 0, []), 1), ((6, 1, 0, 0, []), 1), ((27, 0, 0, 0, []), 1)] 68 _ _ _ (by decide +kernel) ?_
          exact Prod.mk.inj (Option.some.inj h)
        · refine And.intro (fun hp => absurd hp c5) (fun _ => ?_)
          rcases px_ite h with ⟨c6, h⟩ | ⟨c6, h⟩
          · refine And.intro (fun _ => ?_) (fun hn => absurd c6 hn)
            refine H [((1, 2, 0, 0, []), 1), ((1, 3, 0, 0, []), 1), ((13, 5, 93, 0, []), 3), ((0, 0, 0, 1, []), 1), ((12, 0, 94, 0, []), 3), ((27, 0, 0, 0, []), 1)] 84 _ _ _ (by decide +kernel) ?_
            rcases px_ite h with ⟨c7, h⟩ | ⟨c7, h⟩
            · refine And.intro (fun _ => ?_) (fun hn => absurd c7 hn)
              refine H [((0, 0, 0, 0, []), 1), ((27, 0, 0, 0, []), 1)] 93 _ _ _ (by decide +kernel) ?_
              exact Prod.mk.inj (Option.some.inj h)
            · refine And.intro (fun hp => absurd hp c7) (fun _ => ?_)
              exact Prod.mk.inj (Option.some.inj h)
          · refine And.intro (fun hp => absurd hp c6) (fun _ => ?_)
            rcases px_ite h with ⟨c8, h⟩ | ⟨c8, h⟩
            · refine And.intro (fun _ => ?_) (fun hn => absurd c8 hn)
              refine H [((1, 2, 0, 0, []), 1), ((1, 3, 0, 0, []), 1), ((6, 5, 0, 0, []), 1), ((27, 0, 0, 0, []), 1)] 80 _ _ _ (by decide +kernel) ?_
              exact Prod.mk.inj (Option.some.inj h)
            · refine And.intro (fun hp => absurd hp c8) (fun _ => ?_)
              refine H [((2, 0, 0, 0, []), 1), ((17, 4, 11, 0, []), 3), ((1, 1, 0, 0, []), 1), ((19, 11, 20, 0, []), 1), ((27, 0, 0, 0, []), 1)] 95 _ _ _ (by decide +kernel) ?_
              obtain ⟨g9, h⟩ := px_gd h
              refine And.intro g9 ?_
              exact Prod.mk.inj (Option.some.inj h)
theorem ok_Prog_reckoned_4 {l : Launch} {a1 a2 a3 : Int} {σ : pS} {v : Int} {σ1 : pS} (h : f_Prog_reckoned_4 a1 a2 a3 σ = some (v, σ1)) : Con l 0 80 [.inr 4, .inl a1, .inl a2, .inl a3] σ v σ1 := Con_mk 4 4 rfl (by decide +kernel) (fun _ H => ok_Prog_reckoned_4_w H _ _ _ _ h)
def f_Prog_placeBy_4 (a1 a2 : Int) (σ : pS) : Option (Int × pS) := if 0 ≤ a1 ∧ a1 < 20 then (some (pAnd (pw (a2 + (σ 11 a1.toNat))) 63, σ)) else none
theorem ok_Prog_placeBy_4_w {l : Launch} {rv : Int} {rσ : pS} {G : Nat → pL → List pV → pS → Prop} (H : px_R l 0 67 rv rσ G) : ∀ (a1 a2 : Int) (σ : pS), f_Prog_placeBy_4 a1 a2 σ = some (rv, rσ) → G 0 [some (.inr 4), some (.inl a1), some (.inl a2)] [] σ := by
  intro a1 a2 σ h
  unfold f_Prog_placeBy_4 at h
  refine H [((1, 2, 0, 0, []), 1), ((2, 0, 0, 0, []), 1), ((17, 4, 11, 0, []), 3), ((1, 1, 0, 0, []), 1), ((19, 11, 20, 0, []), 1), ((6, 0, 0, 0, []), 1), ((0, 0, 0, 63, []), 2), ((6, 3, 0, 0, []), 1), ((27, 0, 0, 0, []), 1)] 0 _ _ _ (by decide +kernel) ?_
  obtain ⟨g1, h⟩ := px_gd h
  refine And.intro g1 ?_
  exact Prod.mk.inj (Option.some.inj h)
theorem ok_Prog_placeBy_4 {l : Launch} {a1 a2 : Int} {σ : pS} {v : Int} {σ1 : pS} (h : f_Prog_placeBy_4 a1 a2 σ = some (v, σ1)) : Con l 0 67 [.inr 4, .inl a1, .inl a2] σ v σ1 := Con_mk 3 3 rfl (by decide +kernel) (fun _ H => ok_Prog_placeBy_4_w H _ _ _ h)
def f_Prog_storedOf_4 (a1 a2 : Int) (σ : pS) : Option (Int × pS) := if 0 ≤ a1 ∧ a1 < 20 then (if (σ 7 a1.toNat) = 4 then (some (a2, σ)) else (if 0 ≤ a1 ∧ a1 < 20 then (some (pAnd a2 (pw ((pShl 1 (pw (8 * (σ 7 a1.toNat)))) - 1)), σ)) else none)) else none
theorem ok_Prog_storedOf_4_w {l : Launch} {rv : Int} {rσ : pS} {G : Nat → pL → List pV → pS → Prop} (H : px_R l 0 72 rv rσ G) : ∀ (a1 a2 : Int) (σ : pS), f_Prog_storedOf_4 a1 a2 σ = some (rv, rσ) → G 0 [some (.inr 4), some (.inl a1), some (.inl a2)] [] σ := by
  intro a1 a2 σ h
  unfold f_Prog_storedOf_4 at h
  refine H [((2, 0, 0, 0, []), 1), ((17, 4, 7, 0, []), 3), ((1, 1, 0, 0, []), 1), ((19, 7, 20, 0, []), 1), ((0, 0, 0, 4, []), 1), ((13, 1, 14, 0, []), 3), ((1, 2, 0, 0, []), 1), ((12, 0, 29, 0, []), 3), ((27, 0, 0, 0, []), 1)] 0 _ _ _ (by decide +kernel) ?_
  obtain ⟨g1, h⟩ := px_gd h
  refine And.intro g1 ?_
  rcases px_ite h with ⟨c2, h⟩ | ⟨c2, h⟩
  · refine And.intro (fun hp => absurd c2 hp) (fun _ => ?_)
    exact Prod.mk.inj (Option.some.inj h)
  · refine And.intro (fun _ => ?_) (fun hn => absurd c2 hn)
    refine H [((1, 2, 0, 0, []), 1), ((0, 0, 0, 1, []), 1), ((0, 0, 0, 8, []), 2), ((2, 0, 0, 0, []), 1), ((17, 4, 7, 0, []), 3), ((1, 1, 0, 0, []), 1), ((19, 7, 20, 0, []), 1), ((6, 2, 0, 0, []), 1), ((6, 6, 0, 0, []), 1), ((0, 0, 0, 1, []), 1), ((6, 1, 0, 0, []), 1), ((6, 3, 0, 0, []), 1), ((27, 0, 0, 0, []), 1)] 14 _ _ _ (by decide +kernel) ?_
    obtain ⟨g3, h⟩ := px_gd h
    refine And.intro g3 ?_
    exact Prod.mk.inj (Option.some.inj h)
theorem ok_Prog_storedOf_4 {l : Launch} {a1 a2 : Int} {σ : pS} {v : Int} {σ1 : pS} (h : f_Prog_storedOf_4 a1 a2 σ = some (v, σ1)) : Con l 0 72 [.inr 4, .inl a1, .inl a2] σ v σ1 := Con_mk 3 3 rfl (by decide +kernel) (fun _ H => ok_Prog_storedOf_4_w H _ _ _ h)
def f_Mach_undoDownTo_3_p26 (k_10 : Int → Int → pS → Option (Int × pS)) : Nat → Int → Int → Int → pS → Option (Int × pS)
  | 0, _, _, _, _ => none
  | n + 1, a1, a2, a3, σ => if 0 ≤ a2 ∧ a2 < 20 then (if (σ 7 a2.toNat) ≤ a3 then (if 0 ≤ a2 ∧ a2 < 20 then (k_10 a1 (pw (a2 + (-1))) (pU (pU σ 41 (a2.toNat) 0) 33 4 (pw ((σ 33 4) + 1)))) else none) else (if 0 ≤ a2 ∧ a2 < 20 then (if 0 ≤ (pw ((pw (a2 * 4)) + a3)) ∧ (pw ((pw (a2 * 4)) + a3)) < 80 then (if 0 ≤ (pAnd (pw ((σ 37 a2.toNat) + a3)) 63) ∧ (pAnd (pw ((σ 37 a2.toNat) + a3)) 63) < 64 then (f_Mach_undoDownTo_3_p26 k_10 n a1 a2 (pw (a3 + 1)) (pU σ 30 ((pAnd (pw ((σ 37 a2.toNat) + a3)) 63).toNat) (σ 42 (pw ((pw (a2 * 4)) + a3)).toNat))) else none) else none) else none)) else none
def f_Mach_undoDownTo_3_p10 : Nat → Int → Int → pS → Option (Int × pS)
  | 0, _, _, _ => none
  | n + 1, a1, a2, σ => if a2 < a1 then (some (0, σ)) else (if 0 ≤ a2 ∧ a2 < 20 then (if (σ 41 a2.toNat) = 0 then (f_Mach_undoDownTo_3_p10 n a1 (pw (a2 + (-1))) σ) else (f_Mach_undoDownTo_3_p26 (f_Mach_undoDownTo_3_p10 n) 4096 a1 a2 0 σ)) else none)
def f_Mach_undoDownTo_3 (a1 : Int) (σ : pS) : Option (Int × pS) := f_Mach_undoDownTo_3_p10 4096 a1 (pw ((σ 4 11) - 1)) σ
theorem ok_Mach_undoDownTo_3_p26 {l : Launch} {rv : Int} {rσ : pS} {G : Nat → pL → List pV → pS → Prop} (H : px_R l 0 78 rv rσ G) {k_10 : Int → Int → pS → Option (Int × pS)} (hk_10 : ∀ (a1 a2 : Int) (σ : pS), k_10 a1 a2 σ = some (rv, rσ) → G 10 [some (.inr 3), some (.inl a1), some (.inl a2), none] [] σ) : ∀ (n : Nat) (a1 a2 a3 : Int) (σ : pS), f_Mach_undoDownTo_3_p26 k_10 n a1 a2 a3 σ = some (rv, rσ) → G 26 [some (.inr 3), some (.inl a1), some (.inl a2), some (.inl a3)] [] σ := by
  intro n
  induction n with
  | zero =>
    intro a1 a2 a3 σ h
    unfold f_Mach_undoDownTo_3_p26 at h
    cases h
  | succ n ih =>
    intro a1 a2 a3 σ h
    unfold f_Mach_undoDownTo_3_p26 at h
    refine H [((1, 3, 0, 0, []), 1), ((2, 0, 0, 0, []), 1), ((17, 3, 4, 0, []), 3), ((17, 4, 7, 0, []), 3), ((1, 2, 0, 0, []), 1), ((19, 7, 20, 0, []), 1), ((13, 3, 77, 0, []), 3), ((2, 0, 0, 0, []), 1), ((17, 3, 28, 0, []), 3), ((17, 28, 30, 0, []), 3), ((2, 0, 0, 0, []), 1), ((17, 3, 32, 0, []), 3), ((17, 32, 37, 0, []), 3), ((1, 2, 0, 0, []), 1), ((19, 37, 20, 0, []), 1), ((1, 3, 0, 0, []), 1), ((6, 0, 0, 0, []), 1), ((0, 0, 0, 63, []), 2), ((6, 3, 0, 0, []), 1), ((2, 0, 0, 0, []), 1), ((17, 3, 42, 0, []), 3), ((1, 2, 0, 0, []), 1), ((0, 0, 0, 4, []), 1), ((6, 2, 0, 0, []), 1), ((1, 3, 0, 0, []), 1), ((6, 0, 0, 0, []), 1), ((19, 42, 80, 0, []), 1), ((20, 30, 64, 0, []), 1), ((5, 3, 0, 1, []), 3), ((12, 0, 26, 0, []), 3)] 26 _ _ _ (by decide +kernel) ?_
    obtain ⟨g4, h⟩ := px_gd h
    refine And.intro g4 ?_
    rcases px_ite h with ⟨c5, h⟩ | ⟨c5, h⟩
    · refine And.intro (fun _ => ?_) (fun hn => absurd c5 hn)
      refine H [((2, 0, 0, 0, []), 1), ((17, 3, 41, 0, []), 3), ((1, 2, 0, 0, []), 1), ((0, 0, 0, 0, []), 1), ((20, 41, 20, 1, []), 1), ((2, 0, 0, 0, []), 1), ((17, 3, 32, 0, []), 3), ((17, 32, 33, 0, []), 3), ((0, 0, 0, 4, []), 1), ((10, 0, 0, 0, []), 1), ((19, 33, 6, 0, []), 1), ((0, 0, 0, 1, []), 1), ((6, 0, 0, 0, []), 1), ((20, 33, 6, 0, []), 1), ((5, 2, 0, (-1), []), 3), ((12, 0, 10, 0, []), 3), ((29, 3, 0, 0, []), 0)] 77 _ _ _ (by decide +kernel) ?_
      obtain ⟨g6, h⟩ := px_gd h
      refine And.intro g6 ?_
      refine And.intro (show (0 : Int) ≤ 0 ∧ (0 : Int) ≤ 1 from by decide) ?_
      refine And.intro (show (0 : Int) ≤ 4 ∧ (4 : Int) < 6 from by decide) ?_
      refine And.intro (show (0 : Int) ≤ 4 ∧ (4 : Int) < 6 from by decide) ?_
      exact hk_10 _ _ _ h
    · refine And.intro (fun hp => absurd hp c5) (fun _ => ?_)
      obtain ⟨g7, h⟩ := px_gd h
      refine And.intro g7 ?_
      obtain ⟨g8, h⟩ := px_gd h
      refine And.intro g8 ?_
      obtain ⟨g9, h⟩ := px_gd h
      refine And.intro g9 ?_
      exact ih _ _ _ _ h
theorem ok_Mach_undoDownTo_3_p10 {l : Launch} {rv : Int} {rσ : pS} {G : Nat → pL → List pV → pS → Prop} (H : px_R l 0 78 rv rσ G) : ∀ (n : Nat) (a1 a2 : Int) (σ : pS), f_Mach_undoDownTo_3_p10 n a1 a2 σ = some (rv, rσ) → G 10 [some (.inr 3), some (.inl a1), some (.inl a2), none] [] σ := by
  intro n
  induction n with
  | zero =>
    intro a1 a2 σ h
    unfold f_Mach_undoDownTo_3_p10 at h
    cases h
  | succ n ih =>
    intro a1 a2 σ h
    unfold f_Mach_undoDownTo_3_p10 at h
    refine H [((1, 2, 0, 0, []), 1), ((1, 1, 0, 0, []), 1), ((13, 2, 103, 0, []), 3), ((2, 0, 0, 0, []), 1), ((17, 3, 41, 0, []), 3), ((1, 2, 0, 0, []), 1), ((19, 41, 20, 0, []), 1), ((14, 0, 97, 0, []), 3), ((0, 0, 0, 0, []), 1), ((3, 3, 0, 0, []), 1)] 10 _ _ _ (by decide +kernel) ?_
    rcases px_ite h with ⟨c1, h⟩ | ⟨c1, h⟩
    · refine And.intro (fun _ => ?_) (fun hn => absurd c1 hn)
      refine H [((28, 0, 0, 0, []), 1)] 103 _ _ _ (by decide +kernel) ?_
      exact (Prod.mk.inj (Option.some.inj h)).2
    · refine And.intro (fun hp => absurd hp c1) (fun _ => ?_)
      obtain ⟨g2, h⟩ := px_gd h
      refine And.intro g2 ?_
      rcases px_ite h with ⟨c3, h⟩ | ⟨c3, h⟩
      · refine And.intro (fun _ => ?_) (fun hn => absurd c3 hn)
        refine H [((5, 2, 0, (-1), []), 3), ((12, 0, 10, 0, []), 3)] 97 _ _ _ (by decide +kernel) ?_
        exact ih _ _ _ h
      · refine And.intro (fun hp => absurd hp c3) (fun _ => ?_)
        exact ok_Mach_undoDownTo_3_p26 H ih _ _ _ _ _ h
theorem ok_Mach_undoDownTo_3_w {l : Launch} {rv : Int} {rσ : pS} {G : Nat → pL → List pV → pS → Prop} (H : px_R l 0 78 rv rσ G) : ∀ (a1 : Int) (σ : pS), f_Mach_undoDownTo_3 a1 σ = some (rv, rσ) → G 0 [some (.inr 3), some (.inl a1), none, none] [] σ := by
  intro a1 σ h
  unfold f_Mach_undoDownTo_3 at h
  refine H [((2, 0, 0, 0, []), 1), ((17, 3, 4, 0, []), 3), ((16, 4, 11, 0, []), 3), ((0, 0, 0, 1, []), 1), ((6, 1, 0, 0, []), 1), ((3, 2, 0, 0, []), 1)] 0 _ _ _ (by decide +kernel) ?_
  exact ok_Mach_undoDownTo_3_p10 H _ _ _ _ h
theorem ok_Mach_undoDownTo_3 {l : Launch} {a1 : Int} {σ : pS} {v : Int} {σ1 : pS} (h : f_Mach_undoDownTo_3 a1 σ = some (v, σ1)) : Con l 0 78 [.inr 3, .inl a1] σ v σ1 := Con_mk 2 4 rfl (by decide +kernel) (fun _ H => ok_Mach_undoDownTo_3_w H _ _ h)
def f_Mach_makeWait_3 (a1 : Int) (σ : pS) : Option (Int × pS) := if 0 ≤ a1 ∧ a1 < 20 then (if 0 ≤ a1 ∧ a1 < 20 then (if 0 ≤ a1 ∧ a1 < 20 then (if 0 ≤ a1 ∧ a1 < 20 then (if (σ 41 a1.toNat) = 0 then (some (0, pU (pU (pU σ 39 (a1.toNat) 0) 35 (a1.toNat) (pw ((σ 35 a1.toNat) + 1))) 33 2 (pw ((σ 33 2) + 1)))) else ((f_Mach_undoDownTo_3 a1 (pU (pU (pU σ 39 (a1.toNat) 0) 35 (a1.toNat) (pw ((σ 35 a1.toNat) + 1))) 33 2 (pw ((σ 33 2) + 1)))).bind fun q6 => (some (0, q6.2)))) else none) else none) else none) else none
theorem ok_Mach_makeWait_3_w {l : Launch} {rv : Int} {rσ : pS} {G : Nat → pL → List pV → pS → Prop} (H : px_R l 1 77 rv rσ G) : ∀ (a1 : Int) (σ : pS), f_Mach_makeWait_3 a1 σ = some (rv, rσ) → G 0 [some (.inr 3), some (.inl a1)] [] σ := by
  intro a1 σ h
  unfold f_Mach_makeWait_3 at h
  refine H [((2, 0, 0, 0, []), 1), ((17, 3, 39, 0, []), 3), ((1, 1, 0, 0, []), 1), ((0, 0, 0, 0, []), 1), ((20, 39, 20, 0, []), 1), ((2, 0, 0, 0, []), 1), ((17, 3, 32, 0, []), 3), ((17, 32, 35, 0, []), 3), ((1, 1, 0, 0, []), 1), ((10, 0, 0, 0, []), 1), ((19, 35, 20, 0, []), 1), ((0, 0, 0, 1, []), 1), ((6, 0, 0, 0, []), 1), ((20, 35, 20, 0, []), 1), ((2, 0, 0, 0, []), 1), ((17, 3, 32, 0, []), 3), ((17, 32, 33, 0, []), 3), ((0, 0, 0, 2, []), 1), ((10, 0, 0, 0, []), 1), ((19, 33, 6, 0, []), 1), ((0, 0, 0, 1, []), 1), ((6, 0, 0, 0, []), 1), ((20, 33, 6, 0, []), 1), ((2, 0, 0, 0, []), 1), ((17, 3, 41, 0, []), 3), ((1, 1, 0, 0, []), 1), ((19, 41, 20, 0, []), 1), ((14, 0, 47, 0, []), 3), ((2, 0, 0, 0, []), 1), ((1, 1, 0, 0, []), 1), ((23, 78, 1, 0, [(0, 3)]), 3), ((28, 0, 0, 0, []), 1)] 0 _ _ _ (by decide +kernel) ?_
  obtain ⟨g1, h⟩ := px_gd h
  refine And.intro g1 ?_
  obtain ⟨g2, h⟩ := px_gd h
  refine And.intro g2 ?_
  obtain ⟨g3, h⟩ := px_gd h
  refine And.intro g3 ?_
  refine And.intro (show (0 : Int) ≤ 2 ∧ (2 : Int) < 6 from by decide) ?_
  refine And.intro (show (0 : Int) ≤ 2 ∧ (2 : Int) < 6 from by decide) ?_
  obtain ⟨g4, h⟩ := px_gd h
  refine And.intro g4 ?_
  rcases px_ite h with ⟨c5, h⟩ | ⟨c5, h⟩
  · refine And.intro (fun _ => ?_) (fun hn => absurd c5 hn)
    refine H [((28, 0, 0, 0, []), 1)] 47 _ _ _ (by decide +kernel) ?_
    exact (Prod.mk.inj (Option.some.inj h)).2
  · refine And.intro (fun hp => absurd hp c5) (fun _ => ?_)
    obtain ⟨⟨vq6, σq6⟩, hq6, h⟩ := px_bind h
    dsimp only at h
    refine Exists.intro 0 (Exists.intro vq6 (Exists.intro σq6 (And.intro (Nat.le_of_ble_eq_true rfl) (And.intro (ok_Mach_undoDownTo_3 hq6) ?_))))
    exact (Prod.mk.inj (Option.some.inj h)).2
theorem ok_Mach_makeWait_3 {l : Launch} {a1 : Int} {σ : pS} {v : Int} {σ1 : pS} (h : f_Mach_makeWait_3 a1 σ = some (v, σ1)) : Con l 1 77 [.inr 3, .inl a1] σ v σ1 := Con_mk 2 2 rfl (by decide +kernel) (fun _ H => ok_Mach_makeWait_3_w H _ _ h)
def f_Mach_dependsOn_3_p55 : Nat → Int → Int → Int → pS → Option (Int × pS)
  | 0, _, _, _, _ => none
  | n + 1, a1, a2, a3, σ => if 0 ≤ a1 ∧ a1 < 20 then (if (σ 7 a1.toNat) ≤ a3 then (some (0, σ)) else (if 0 ≤ (pw ((pw (a1 * 4)) + a3)) ∧ (pw ((pw (a1 * 4)) + a3)) < 80 then (if (σ 38 (pw ((pw (a1 * 4)) + a3)).toNat) = a2 then (some (1, σ)) else (f_Mach_dependsOn_3_p55 n a1 a2 (pw (a3 + 1)) σ)) else none)) else none
def f_Mach_dependsOn_3 (a1 a2 : Int) (σ : pS) : Option (Int × pS) := if 0 ≤ a1 ∧ a1 < 20 then (if (σ 12 a1.toNat) = a2 then (some (1, σ)) else (if 0 ≤ a1 ∧ a1 < 20 then (if (σ 13 a1.toNat) = a2 then (some (1, σ)) else (if 0 ≤ a1 ∧ a1 < 20 then (if (σ 5 a1.toNat) = 2 then (if 0 ≤ a1 ∧ a1 < 20 then (if (σ 39 a1.toNat) = 2 then (f_Mach_dependsOn_3_p55 4096 a1 a2 0 σ) else (some (0, σ))) else none) else (some (0, σ))) else none)) else none)) else none
theorem ok_Mach_dependsOn_3_p55 {l : Launch} {rv : Int} {rσ : pS} {G : Nat → pL → List pV → pS → Prop} (H : px_R l 0 79 rv rσ G) : ∀ (n : Nat) (a1 a2 a3 : Int) (σ : pS), f_Mach_dependsOn_3_p55 n a1 a2 a3 σ = some (rv, rσ) → G 55 [some (.inr 3), some (.inl a1), some (.inl a2), some (.inl a3)] [] σ := by
  intro n
  induction n with
  | zero =>
    intro a1 a2 a3 σ h
    unfold f_Mach_dependsOn_3_p55 at h
    cases h
  | succ n ih =>
    intro a1 a2 a3 σ h
    unfold f_Mach_dependsOn_3_p55 at h
    refine H [((1, 3, 0, 0, []), 1), ((2, 0, 0, 0, []), 1), ((17, 3, 4, 0, []), 3), ((17, 4, 7, 0, []), 3), ((1, 1, 0, 0, []), 1), ((19, 7, 20, 0, []), 1), ((13, 3, 93, 0, []), 3), ((2, 0, 0, 0, []), 1), ((17, 3, 32, 0, []), 3), ((17, 32, 38, 0, []), 3), ((1, 1, 0, 0, []), 1), ((0, 0, 0, 4, []), 1), ((6, 2, 0, 0, []), 1), ((1, 3, 0, 0, []), 1), ((6, 0, 0, 0, []), 1), ((19, 38, 80, 0, []), 1), ((1, 2, 0, 0, []), 1), ((13, 1, 87, 0, []), 3), ((0, 0, 0, 1, []), 1), ((27, 1, 0, 0, []), 1)] 55 _ _ _ (by decide +kernel) ?_
    obtain ⟨g9, h⟩ := px_gd h
    refine And.intro g9 ?_
    rcases px_ite h with ⟨c10, h⟩ | ⟨c10, h⟩
    · refine And.intro (fun _ => ?_) (fun hn => absurd c10 hn)
      refine H [((0, 0, 0, 0, []), 1), ((27, 1, 0, 0, []), 1)] 93 _ _ _ (by decide +kernel) ?_
      refine And.intro (show (0 : Int) ≤ 0 ∧ (0 : Int) ≤ 1 from by decide) ?_
      exact Prod.mk.inj (Option.some.inj h)
    · refine And.intro (fun hp => absurd hp c10) (fun _ => ?_)
      obtain ⟨g11, h⟩ := px_gd h
      refine And.intro g11 ?_
      rcases px_ite h with ⟨c12, h⟩ | ⟨c12, h⟩
      · refine And.intro (fun hp => absurd c12 hp) (fun _ => ?_)
        refine And.intro (show (0 : Int) ≤ 1 ∧ (1 : Int) ≤ 1 from by decide) ?_
        exact Prod.mk.inj (Option.some.inj h)
      · refine And.intro (fun _ => ?_) (fun hn => absurd c12 hn)
        refine H [((5, 3, 0, 1, []), 3), ((12, 0, 55, 0, []), 3)] 87 _ _ _ (by decide +kernel) ?_
        exact ih _ _ _ _ h
theorem ok_Mach_dependsOn_3_w {l : Launch} {rv : Int} {rσ : pS} {G : Nat → pL → List pV → pS → Prop} (H : px_R l 0 79 rv rσ G) : ∀ (a1 a2 : Int) (σ : pS), f_Mach_dependsOn_3 a1 a2 σ = some (rv, rσ) → G 0 [some (.inr 3), some (.inl a1), some (.inl a2), none] [] σ := by
  intro a1 a2 σ h
  unfold f_Mach_dependsOn_3 at h
  refine H [((2, 0, 0, 0, []), 1), ((17, 3, 4, 0, []), 3), ((17, 4, 12, 0, []), 3), ((1, 1, 0, 0, []), 1), ((19, 12, 20, 0, []), 1), ((1, 2, 0, 0, []), 1), ((13, 0, 26, 0, []), 3), ((2, 0, 0, 0, []), 1), ((17, 3, 4, 0, []), 3), ((17, 4, 13, 0, []), 3), ((1, 1, 0, 0, []), 1), ((19, 13, 20, 0, []), 1), ((1, 2, 0, 0, []), 1), ((13, 1, 28, 0, []), 3), ((0, 0, 0, 1, []), 1), ((27, 1, 0, 0, []), 1)] 0 _ _ _ (by decide +kernel) ?_
  obtain ⟨g1, h⟩ := px_gd h
  refine And.intro g1 ?_
  rcases px_ite h with ⟨c2, h⟩ | ⟨c2, h⟩
  · refine And.intro (fun _ => ?_) (fun hn => absurd c2 hn)
    refine H [((0, 0, 0, 1, []), 1), ((27, 1, 0, 0, []), 1)] 26 _ _ _ (by decide +kernel) ?_
    refine And.intro (show (0 : Int) ≤ 1 ∧ (1 : Int) ≤ 1 from by decide) ?_
    exact Prod.mk.inj (Option.some.inj h)
  · refine And.intro (fun hp => absurd hp c2) (fun _ => ?_)
    obtain ⟨g3, h⟩ := px_gd h
    refine And.intro g3 ?_
    rcases px_ite h with ⟨c4, h⟩ | ⟨c4, h⟩
    · refine And.intro (fun hp => absurd c4 hp) (fun _ => ?_)
      refine And.intro (show (0 : Int) ≤ 1 ∧ (1 : Int) ≤ 1 from by decide) ?_
      exact Prod.mk.inj (Option.some.inj h)
    · refine And.intro (fun _ => ?_) (fun hn => absurd c4 hn)
      refine H [((2, 0, 0, 0, []), 1), ((17, 3, 4, 0, []), 3), ((17, 4, 5, 0, []), 3), ((1, 1, 0, 0, []), 1), ((19, 5, 20, 0, []), 1), ((0, 0, 0, 2, []), 1), ((13, 1, 51, 0, []), 3), ((2, 0, 0, 0, []), 1), ((17, 3, 39, 0, []), 3), ((1, 1, 0, 0, []), 1), ((19, 39, 20, 0, []), 1), ((0, 0, 0, 2, []), 1), ((13, 0, 53, 0, []), 3), ((0, 0, 0, 0, []), 1), ((27, 1, 0, 0, []), 1)] 28 _ _ _ (by decide +kernel) ?_
      obtain ⟨g5, h⟩ := px_gd h
      refine And.intro g5 ?_
      rcases px_ite h with ⟨c6, h⟩ | ⟨c6, h⟩
      · refine And.intro (fun hp => absurd c6 hp) (fun _ => ?_)
        obtain ⟨g7, h⟩ := px_gd h
        refine And.intro g7 ?_
        rcases px_ite h with ⟨c8, h⟩ | ⟨c8, h⟩
        · refine And.intro (fun _ => ?_) (fun hn => absurd c8 hn)
          refine H [((0, 0, 0, 0, []), 1), ((3, 3, 0, 0, []), 1)] 53 _ _ _ (by decide +kernel) ?_
          exact ok_Mach_dependsOn_3_p55 H _ _ _ _ _ h
        · refine And.intro (fun hp => absurd hp c8) (fun _ => ?_)
          refine And.intro (show (0 : Int) ≤ 0 ∧ (0 : Int) ≤ 1 from by decide) ?_
          exact Prod.mk.inj (Option.some.inj h)
      · refine And.intro (fun _ => ?_) (fun hn => absurd c6 hn)
        refine H [((0, 0, 0, 0, []), 1), ((27, 1, 0, 0, []), 1)] 51 _ _ _ (by decide +kernel) ?_
        refine And.intro (show (0 : Int) ≤ 0 ∧ (0 : Int) ≤ 1 from by decide) ?_
        exact Prod.mk.inj (Option.some.inj h)
theorem ok_Mach_dependsOn_3 {l : Launch} {a1 a2 : Int} {σ : pS} {v : Int} {σ1 : pS} (h : f_Mach_dependsOn_3 a1 a2 σ = some (v, σ1)) : Con l 0 79 [.inr 3, .inl a1, .inl a2] σ v σ1 := Con_mk 3 4 rfl (by decide +kernel) (fun _ H => ok_Mach_dependsOn_3_w H _ _ _ h)
