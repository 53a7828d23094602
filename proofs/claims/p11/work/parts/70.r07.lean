def f_M_cycleGoes_84_p47 : Nat → Int → Int → Int → Int → pS → Option (Int × pS)
  | 0, _, _, _, _, _ => none
  | n + 1, a1, a2, a3, a4, σ => if (σ 84 2) ≤ a4 then ((f_M_retires_84 a1 σ).bind fun q3 => (some (0, q3.2))) else (if 0 ≤ a4 ∧ a4 < 20 then (if (σ 118 a4.toNat) = 0 then ((f_M_areSourcesDone_84 a4 σ).bind fun q6 => (if q6.1 = 0 then (f_M_cycleGoes_84_p47 n a1 a2 a3 (pw (a4 + 1)) q6.2) else ((f_M_isKeptBack_84 a4 q6.2).bind fun q8 => (if q8.1 = 0 then (if a2 ≤ a3 then (f_M_cycleGoes_84_p47 n a1 a2 a3 (pw (a4 + 1)) q8.2) else ((f_M_goesOff_84 a4 a1 q8.2).bind fun q11 => (f_M_cycleGoes_84_p47 n a1 a2 (pw (a3 + 1)) (pw (a4 + 1)) q11.2))) else (f_M_cycleGoes_84_p47 n a1 a2 a3 (pw (a4 + 1)) (pU q8.2 84 68 (pw ((q8.2 84 68) + 1)))))))) else (f_M_cycleGoes_84_p47 n a1 a2 a3 (pw (a4 + 1)) σ)) else none)
def f_M_cycleGoes_84_p2 : Nat → Int → Int → Int → pS → Option (Int × pS)
  | 0, _, _, _, _ => none
  | n + 1, a1, a2, a3, σ => if (σ 84 2) ≤ a3 then (f_M_cycleGoes_84_p47 4096 a1 a2 0 0 σ) else (if 0 ≤ a3 ∧ a3 < 20 then (if (σ 118 a3.toNat) = 1 then (if 0 ≤ a3 ∧ a3 < 20 then (if (σ 119 a3.toNat) = a1 then ((f_M_comesDone_84 a3 a1 σ).bind fun q16 => (f_M_cycleGoes_84_p2 n a1 a2 (pw (a3 + 1)) q16.2)) else (f_M_cycleGoes_84_p2 n a1 a2 (pw (a3 + 1)) σ)) else none) else (f_M_cycleGoes_84_p2 n a1 a2 (pw (a3 + 1)) σ)) else none)
def f_M_cycleGoes_84 (a1 a2 : Int) (σ : pS) : Option (Int × pS) := f_M_cycleGoes_84_p2 4096 a1 a2 0 σ
theorem ok_M_cycleGoes_84_p47 {l : Launch} {rv : Int} {rσ : pS} {G : Nat → pL → List pV → pS → Prop} (H : px_R l 7 178 rv rσ G) : ∀ (n : Nat) (a1 a2 a3 a4 : Int) (σ : pS), f_M_cycleGoes_84_p47 n a1 a2 a3 a4 σ = some (rv, rσ) → G 47 [some (.inr 84), some (.inl a1), some (.inl a2), some (.inl a3), some (.inl a4)] [] σ := by
  intro n
  induction n with
  | zero =>
    intro a1 a2 a3 a4 σ h
    unfold f_M_cycleGoes_84_p47 at h
    cases h
  | succ n ih =>
    intro a1 a2 a3 a4 σ h
    unfold f_M_cycleGoes_84_p47 at h
    refine H [((1, 4, 0, 0, []), 2), ((2, 0, 0, 0, []), 1), ((16, 84, 2, 0, []), 3), ((13, 3, 122, 0, []), 3), ((2, 0, 0, 0, []), 1), ((17, 84, 118, 0, []), 3), ((1, 4, 0, 0, []), 2), ((19, 118, 20, 0, []), 1), ((14, 1, 116, 0, []), 3), ((2, 0, 0, 0, []), 1), ((1, 4, 0, 0, []), 2), ((23, 197, 1, 1, [(0, 84)]), 3), ((14, 1, 78, 0, []), 3), ((12, 0, 116, 0, []), 3), ((5, 4, 0, 1, []), 3), ((12, 0, 47, 0, []), 3)] 47 _ _ _ (by decide +kernel) ?_
    rcases px_ite h with ⟨c2, h⟩ | ⟨c2, h⟩
    · refine And.intro (fun _ => ?_) (fun hn => absurd c2 hn)
      refine H [((2, 0, 0, 0, []), 1), ((1, 1, 0, 0, []), 1), ((23, 205, 1, 0, [(0, 84)]), 3), ((28, 0, 0, 0, []), 1)] 122 _ _ _ (by decide +kernel) ?_
      obtain ⟨⟨vq3, σq3⟩, hq3, h⟩ := px_bind h
      dsimp only at h
      refine Exists.intro 3 (Exists.intro vq3 (Exists.intro σq3 (And.intro (Nat.le_of_ble_eq_true rfl) (And.intro (ok_M_retires_84 hq3) ?_))))
      exact (Prod.mk.inj (Option.some.inj h)).2
    · refine And.intro (fun hp => absurd hp c2) (fun _ => ?_)
      obtain ⟨g4, h⟩ := px_gd h
      refine And.intro g4 ?_
      rcases px_ite h with ⟨c5, h⟩ | ⟨c5, h⟩
      · refine And.intro (fun hp => absurd c5 hp) (fun _ => ?_)
        obtain ⟨⟨vq6, σq6⟩, hq6, h⟩ := px_bind h
        dsimp only at h
        refine Exists.intro 2 (Exists.intro vq6 (Exists.intro σq6 (And.intro (Nat.le_of_ble_eq_true rfl) (And.intro (ok_M_areSourcesDone_84 hq6) ?_))))
        rcases px_ite h with ⟨c7, h⟩ | ⟨c7, h⟩
        · refine And.intro (fun hp => absurd c7 hp) (fun _ => ?_)
          exact ih _ _ _ _ _ h
        · refine And.intro (fun _ => ?_) (fun hn => absurd c7 hn)
          refine H [((2, 0, 0, 0, []), 1), ((1, 4, 0, 0, []), 2), ((23, 198, 1, 1, [(0, 84)]), 3), ((14, 0, 100, 0, []), 3), ((2, 0, 0, 0, []), 1), ((2, 0, 0, 0, []), 1), ((16, 84, 68, 0, []), 3), ((0, 0, 0, 1, []), 1), ((6, 0, 0, 0, []), 1), ((18, 84, 68, 0, []), 3), ((12, 0, 116, 0, []), 3), ((5, 4, 0, 1, []), 3), ((12, 0, 47, 0, []), 3)] 78 _ _ _ (by decide +kernel) ?_
          obtain ⟨⟨vq8, σq8⟩, hq8, h⟩ := px_bind h
          dsimp only at h
          refine Exists.intro 1 (Exists.intro vq8 (Exists.intro σq8 (And.intro (Nat.le_of_ble_eq_true rfl) (And.intro (ok_M_isKeptBack_84 hq8) ?_))))
          rcases px_ite h with ⟨c9, h⟩ | ⟨c9, h⟩
          · refine And.intro (fun _ => ?_) (fun hn => absurd c9 hn)
            refine H [((1, 3, 0, 0, []), 1), ((1, 2, 0, 0, []), 1), ((13, 3, 116, 0, []), 3), ((1, 3, 0, 0, []), 1), ((0, 0, 0, 1, []), 1), ((6, 0, 0, 0, []), 1), ((3, 3, 0, 0, []), 1), ((2, 0, 0, 0, []), 1), ((1, 4, 0, 0, []), 2), ((1, 1, 0, 0, []), 1), ((23, 200, 2, 0, [(0, 84)]), 3), ((5, 4, 0, 1, []), 3), ((12, 0, 47, 0, []), 3)] 100 _ _ _ (by decide +kernel) ?_
            rcases px_ite h with ⟨c10, h⟩ | ⟨c10, h⟩
            · refine And.intro (fun _ => ?_) (fun hn => absurd c10 hn)
              refine H [((5, 4, 0, 1, []), 3), ((12, 0, 47, 0, []), 3)] 116 _ _ _ (by decide +kernel) ?_
              exact ih _ _ _ _ _ h
            · refine And.intro (fun hp => absurd hp c10) (fun _ => ?_)
              obtain ⟨⟨vq11, σq11⟩, hq11, h⟩ := px_bind h
              dsimp only at h
              refine Exists.intro 3 (Exists.intro vq11 (Exists.intro σq11 (And.intro (Nat.le_of_ble_eq_true rfl) (And.intro (ok_M_goesOff_84 hq11) ?_))))
              exact ih _ _ _ _ _ h
          · refine And.intro (fun hp => absurd hp c9) (fun _ => ?_)
            exact ih _ _ _ _ _ h
      · refine And.intro (fun _ => ?_) (fun hn => absurd c5 hn)
        refine H [((5, 4, 0, 1, []), 3), ((12, 0, 47, 0, []), 3)] 116 _ _ _ (by decide +kernel) ?_
        exact ih _ _ _ _ _ h
theorem ok_M_cycleGoes_84_p2 {l : Launch} {rv : Int} {rσ : pS} {G : Nat → pL → List pV → pS → Prop} (H : px_R l 7 178 rv rσ G) : ∀ (n : Nat) (a1 a2 a3 : Int) (σ : pS), f_M_cycleGoes_84_p2 n a1 a2 a3 σ = some (rv, rσ) → G 2 [some (.inr 84), some (.inl a1), some (.inl a2), some (.inl a3), none] [] σ := by
  intro n
  induction n with
  | zero =>
    intro a1 a2 a3 σ h
    unfold f_M_cycleGoes_84_p2 at h
    cases h
  | succ n ih =>
    intro a1 a2 a3 σ h
    unfold f_M_cycleGoes_84_p2 at h
    refine H [((1, 3, 0, 0, []), 1), ((2, 0, 0, 0, []), 1), ((16, 84, 2, 0, []), 3), ((13, 3, 42, 0, []), 3), ((2, 0, 0, 0, []), 1), ((17, 84, 118, 0, []), 3), ((1, 3, 0, 0, []), 1), ((19, 118, 20, 0, []), 1), ((0, 0, 0, 1, []), 1), ((13, 1, 36, 0, []), 3), ((2, 0, 0, 0, []), 1), ((17, 84, 119, 0, []), 3), ((1, 3, 0, 0, []), 1), ((19, 119, 20, 0, []), 1), ((1, 1, 0, 0, []), 1), ((13, 1, 36, 0, []), 3), ((2, 0, 0, 0, []), 1), ((1, 3, 0, 0, []), 1), ((1, 1, 0, 0, []), 1), ((23, 179, 2, 0, [(0, 84)]), 3), ((5, 3, 0, 1, []), 3), ((12, 0, 2, 0, []), 3)] 2 _ _ _ (by decide +kernel) ?_
    rcases px_ite h with ⟨c1, h⟩ | ⟨c1, h⟩
    · refine And.intro (fun _ => ?_) (fun hn => absurd c1 hn)
      refine H [((0, 0, 0, 0, []), 1), ((3, 3, 0, 0, []), 1), ((0, 0, 0, 0, []), 1), ((3, 4, 0, 0, []), 2)] 42 _ _ _ (by decide +kernel) ?_
      exact ok_M_cycleGoes_84_p47 H _ _ _ _ _ _ h
    · refine And.intro (fun hp => absurd hp c1) (fun _ => ?_)
      obtain ⟨g12, h⟩ := px_gd h
      refine And.intro g12 ?_
      rcases px_ite h with ⟨c13, h⟩ | ⟨c13, h⟩
      · refine And.intro (fun hp => absurd c13 hp) (fun _ => ?_)
        obtain ⟨g14, h⟩ := px_gd h
        refine And.intro g14 ?_
        rcases px_ite h with ⟨c15, h⟩ | ⟨c15, h⟩
        · refine And.intro (fun hp => absurd c15 hp) (fun _ => ?_)
          obtain ⟨⟨vq16, σq16⟩, hq16, h⟩ := px_bind h
          dsimp only at h
          refine Exists.intro 6 (Exists.intro vq16 (Exists.intro σq16 (And.intro (Nat.le_of_ble_eq_true rfl) (And.intro (ok_M_comesDone_84 hq16) ?_))))
          exact ih _ _ _ _ h
        · refine And.intro (fun _ => ?_) (fun hn => absurd c15 hn)
          refine H [((5, 3, 0, 1, []), 3), ((12, 0, 2, 0, []), 3)] 36 _ _ _ (by decide +kernel) ?_
          exact ih _ _ _ _ h
      · refine And.intro (fun _ => ?_) (fun hn => absurd c13 hn)
        refine H [((5, 3, 0, 1, []), 3), ((12, 0, 2, 0, []), 3)] 36 _ _ _ (by decide +kernel) ?_
        exact ih _ _ _ _ h
theorem ok_M_cycleGoes_84_w {l : Launch} {rv : Int} {rσ : pS} {G : Nat → pL → List pV → pS → Prop} (H : px_R l 7 178 rv rσ G) : ∀ (a1 a2 : Int) (σ : pS), f_M_cycleGoes_84 a1 a2 σ = some (rv, rσ) → G 0 [some (.inr 84), some (.inl a1), some (.inl a2), none, none] [] σ := by
  intro a1 a2 σ h
  unfold f_M_cycleGoes_84 at h
  refine H [((0, 0, 0, 0, []), 1), ((3, 3, 0, 0, []), 1)] 0 _ _ _ (by decide +kernel) ?_
  exact ok_M_cycleGoes_84_p2 H _ _ _ _ _ h
theorem ok_M_cycleGoes_84 {l : Launch} {a1 a2 : Int} {σ : pS} {v : Int} {σ1 : pS} (h : f_M_cycleGoes_84 a1 a2 σ = some (v, σ1)) : Con l 7 178 [.inr 84, .inl a1, .inl a2] σ v σ1 := Con_mk 3 5 rfl (by decide +kernel) (fun _ H => ok_M_cycleGoes_84_w H _ _ _ h)
def f_M_isOver_84_p2 : Nat → Int → pS → Option (Int × pS)
  | 0, _, _ => none
  | n + 1, a1, σ => if (σ 84 2) ≤ a1 then (some (1, σ)) else (if 0 ≤ a1 ∧ a1 < 20 then (if (σ 118 a1.toNat) = 2 then (if 0 ≤ a1 ∧ a1 < 20 then (if (σ 88 a1.toNat) = 3 then (if 0 ≤ a1 ∧ a1 < 20 then (if (σ 126 a1.toNat) = 0 then (some (0, σ)) else (f_M_isOver_84_p2 n (pw (a1 + 1)) σ)) else none) else (f_M_isOver_84_p2 n (pw (a1 + 1)) σ)) else none) else (some (0, σ))) else none)
def f_M_isOver_84 (σ : pS) : Option (Int × pS) := f_M_isOver_84_p2 4096 0 σ
theorem ok_M_isOver_84_p2 {l : Launch} {rv : Int} {rσ : pS} {G : Nat → pL → List pV → pS → Prop} (H : px_R l 0 209 rv rσ G) : ∀ (n : Nat) (a1 : Int) (σ : pS), f_M_isOver_84_p2 n a1 σ = some (rv, rσ) → G 2 [some (.inr 84), some (.inl a1)] [] σ := by
  intro n
  induction n with
  | zero =>
    intro a1 σ h
    unfold f_M_isOver_84_p2 at h
    cases h
  | succ n ih =>
    intro a1 σ h
    unfold f_M_isOver_84_p2 at h
    refine H [((1, 1, 0, 0, []), 1), ((2, 0, 0, 0, []), 1), ((16, 84, 2, 0, []), 3), ((13, 3, 47, 0, []), 3), ((2, 0, 0, 0, []), 1), ((17, 84, 118, 0, []), 3), ((1, 1, 0, 0, []), 1), ((19, 118, 20, 0, []), 1), ((0, 0, 0, 2, []), 1), ((13, 1, 39, 0, []), 3), ((2, 0, 0, 0, []), 1), ((17, 84, 88, 0, []), 3), ((1, 1, 0, 0, []), 1), ((19, 88, 20, 0, []), 1), ((0, 0, 0, 3, []), 1), ((13, 1, 41, 0, []), 3), ((2, 0, 0, 0, []), 1), ((17, 84, 126, 0, []), 3), ((1, 1, 0, 0, []), 1), ((19, 126, 20, 0, []), 1), ((14, 1, 41, 0, []), 3), ((0, 0, 0, 0, []), 1), ((27, 1, 0, 0, []), 1)] 2 _ _ _ (by decide +kernel) ?_
    rcases px_ite h with ⟨c1, h⟩ | ⟨c1, h⟩
    · refine And.intro (fun _ => ?_) (fun hn => absurd c1 hn)
      refine H [((0, 0, 0, 1, []), 1), ((27, 1, 0, 0, []), 1)] 47 _ _ _ (by decide +kernel) ?_
      refine And.intro (show (0 : Int) ≤ 1 ∧ (1 : Int) ≤ 1 from by decide) ?_
      exact Prod.mk.inj (Option.some.inj h)
    · refine And.intro (fun hp => absurd hp c1) (fun _ => ?_)
      obtain ⟨g2, h⟩ := px_gd h
      refine And.intro g2 ?_
      rcases px_ite h with ⟨c3, h⟩ | ⟨c3, h⟩
      · refine And.intro (fun hp => absurd c3 hp) (fun _ => ?_)
        obtain ⟨g4, h⟩ := px_gd h
        refine And.intro g4 ?_
        rcases px_ite h with ⟨c5, h⟩ | ⟨c5, h⟩
        · refine And.intro (fun hp => absurd c5 hp) (fun _ => ?_)
          obtain ⟨g6, h⟩ := px_gd h
          refine And.intro g6 ?_
          rcases px_ite h with ⟨c7, h⟩ | ⟨c7, h⟩
          · refine And.intro (fun hp => absurd c7 hp) (fun _ => ?_)
            refine And.intro (show (0 : Int) ≤ 0 ∧ (0 : Int) ≤ 1 from by decide) ?_
            exact Prod.mk.inj (Option.some.inj h)
          · refine And.intro (fun _ => ?_) (fun hn => absurd c7 hn)
            refine H [((5, 1, 0, 1, []), 3), ((12, 0, 2, 0, []), 3)] 41 _ _ _ (by decide +kernel) ?_
            exact ih _ _ h
        · refine And.intro (fun _ => ?_) (fun hn => absurd c5 hn)
          refine H [((5, 1, 0, 1, []), 3), ((12, 0, 2, 0, []), 3)] 41 _ _ _ (by decide +kernel) ?_
          exact ih _ _ h
      · refine And.intro (fun _ => ?_) (fun hn => absurd c3 hn)
        refine H [((0, 0, 0, 0, []), 1), ((27, 1, 0, 0, []), 1)] 39 _ _ _ (by decide +kernel) ?_
        refine And.intro (show (0 : Int) ≤ 0 ∧ (0 : Int) ≤ 1 from by decide) ?_
        exact Prod.mk.inj (Option.some.inj h)
theorem ok_M_isOver_84_w {l : Launch} {rv : Int} {rσ : pS} {G : Nat → pL → List pV → pS → Prop} (H : px_R l 0 209 rv rσ G) : ∀ (σ : pS), f_M_isOver_84  σ = some (rv, rσ) → G 0 [some (.inr 84), none] [] σ := by
  intro  σ h
  unfold f_M_isOver_84 at h
  refine H [((0, 0, 0, 0, []), 1), ((3, 1, 0, 0, []), 1)] 0 _ _ _ (by decide +kernel) ?_
  exact ok_M_isOver_84_p2 H _ _ _ h
theorem ok_M_isOver_84 {l : Launch} {σ : pS} {v : Int} {σ1 : pS} (h : f_M_isOver_84  σ = some (v, σ1)) : Con l 0 209 [.inr 84] σ v σ1 := Con_mk 1 2 rfl (by decide +kernel) (fun _ H => ok_M_isOver_84_w H  _ h)
def f_M_goesThrough_84_p177 : Nat → Int → pS → Option (Int × pS)
  | 0, _, _ => none
  | n + 1, a3, σ => if 8 ≤ a3 then (if (σ 84 63) = (-5) then (some (0, σ)) else (some (1, σ))) else ((f_M_readBy_84 (σ 84 2) a3 σ).bind fun q7 => (if 0 ≤ a3 ∧ a3 < 8 then (f_M_goesThrough_84_p177 n (pw (a3 + 1)) (pU q7.2 130 (a3.toNat) q7.1)) else none))
def f_M_goesThrough_84_p133 : Nat → Int → Int → pS → Option (Int × pS)
  | 0, _, _, _ => none
  | n + 1, a1, a3, σ => if 2000 < a3 then (f_M_goesThrough_84_p177 4096 0 σ) else (if (σ 84 63) = (-5) then ((f_M_cycleGoes_84 a3 a1 σ).bind fun q10 => ((f_M_isOver_84  q10.2).bind fun q11 => (if q11.1 = 0 then (f_M_goesThrough_84_p133 n a1 (pw (a3 + 1)) q11.2) else (f_M_goesThrough_84_p133 n a1 (pw (a3 + 1)) (pU q11.2 84 63 (pw (a3 + 1))))))) else (f_M_goesThrough_84_p177 4096 0 σ))
def f_M_goesThrough_84_p95 : Nat → Int → Int → pS → Option (Int × pS)
  | 0, _, _, _ => none
  | n + 1, a1, a3, σ => if 64 ≤ a3 then (f_M_goesThrough_84_p133 4096 a1 0 σ) else (if 0 ≤ a3 ∧ a3 < 64 then (if 0 ≤ a3 ∧ a3 < 64 then (if 0 ≤ a3 ∧ a3 < 64 then (if 0 ≤ a3 ∧ a3 < 64 then (f_M_goesThrough_84_p95 n a1 (pw (a3 + 1)) (pU (pU σ 127 (a3.toNat) (σ 86 a3.toNat)) 128 (a3.toNat) (σ 86 a3.toNat))) else none) else none) else none) else none)
def f_M_goesThrough_84_p38 : Nat → Int → Int → pS → Option (Int × pS)
  | 0, _, _, _ => none
  | n + 1, a1, a3, σ => if (σ 84 2) ≤ a3 then (f_M_goesThrough_84_p95 4096 a1 0 (pU σ 84 69 (σ 84 3))) else (if 0 ≤ a3 ∧ a3 < 20 then (if 0 ≤ a3 ∧ a3 < 20 then (if 0 ≤ a3 ∧ a3 < 20 then (if 0 ≤ a3 ∧ a3 < 20 then (if 0 ≤ a3 ∧ a3 < 20 then (f_M_goesThrough_84_p38 n a1 (pw (a3 + 1)) (pU (pU (pU (pU σ 118 (a3.toNat) 0) 126 (a3.toNat) 0) 123 (a3.toNat) 0) 129 (a3.toNat) (σ 87 a3.toNat))) else none) else none) else none) else none) else none)
def f_M_goesThrough_84 (a1 a2 : Int) (σ : pS) : Option (Int × pS) := if 0 ≤ a2 ∧ a2 ≤ 1 then (f_M_goesThrough_84_p38 4096 a1 0 (pU (pU (pU (pU (pU (pU (pU σ 84 70 a2) 84 63 (-5)) 84 64 0) 84 65 0) 84 66 0) 84 67 0) 84 68 0)) else none
theorem ok_M_goesThrough_84_p177 {l : Launch} {rv : Int} {rσ : pS} {G : Nat → pL → List pV → pS → Prop} (H : px_R l 8 177 rv rσ G) : ∀ (n : Nat) (a3 : Int) (σ : pS), f_M_goesThrough_84_p177 n a3 σ = some (rv, rσ) → G 177 [some (.inr 84), none, none, some (.inl a3)] [] σ := by
  intro n
  induction n with
  | zero =>
    intro a3 σ h
    unfold f_M_goesThrough_84_p177 at h
    cases h
  | succ n ih =>
    intro a3 σ h
    unfold f_M_goesThrough_84_p177 at h
    refine H [((1, 3, 0, 0, []), 1), ((0, 0, 0, 8, []), 2), ((13, 3, 204, 0, []), 3), ((2, 0, 0, 0, []), 1), ((17, 84, 130, 0, []), 3), ((1, 3, 0, 0, []), 1), ((2, 0, 0, 0, []), 1), ((2, 0, 0, 0, []), 1), ((16, 84, 2, 0, []), 3), ((1, 3, 0, 0, []), 1), ((23, 180, 2, 1, [(0, 84)]), 3), ((20, 130, 8, 0, []), 1), ((5, 3, 0, 1, []), 3), ((12, 0, 177, 0, []), 3)] 177 _ _ _ (by decide +kernel) ?_
    rcases px_ite h with ⟨c5, h⟩ | ⟨c5, h⟩
    · refine And.intro (fun _ => ?_) (fun hn => absurd c5 hn)
      refine H [((2, 0, 0, 0, []), 1), ((16, 84, 63, 0, []), 3), ((0, 0, 0, (-5), []), 2), ((13, 0, 217, 0, []), 3), ((0, 0, 0, 1, []), 1), ((12, 0, 218, 0, []), 3), ((27, 1, 0, 0, []), 1)] 204 _ _ _ (by decide +kernel) ?_
      rcases px_ite h with ⟨c6, h⟩ | ⟨c6, h⟩
      · refine And.intro (fun _ => ?_) (fun hn => absurd c6 hn)
        refine H [((0, 0, 0, 0, []), 1), ((27, 1, 0, 0, []), 1)] 217 _ _ _ (by decide +kernel) ?_
        refine And.intro (show (0 : Int) ≤ 0 ∧ (0 : Int) ≤ 1 from by decide) ?_
        exact Prod.mk.inj (Option.some.inj h)
      · refine And.intro (fun hp => absurd hp c6) (fun _ => ?_)
        refine And.intro (show (0 : Int) ≤ 1 ∧ (1 : Int) ≤ 1 from by decide) ?_
        exact Prod.mk.inj (Option.some.inj h)
    · refine And.intro (fun hp => absurd hp c5) (fun _ => ?_)
      obtain ⟨⟨vq7, σq7⟩, hq7, h⟩ := px_bind h
      dsimp only at h
      refine Exists.intro 2 (Exists.intro vq7 (Exists.intro σq7 (And.intro (Nat.le_of_ble_eq_true rfl) (And.intro (ok_M_readBy_84 hq7) ?_))))
      obtain ⟨g8, h⟩ := px_gd h
      refine And.intro g8 ?_
      exact ih _ _ h
theorem ok_M_goesThrough_84_p133 {l : Launch} {rv : Int} {rσ : pS} {G : Nat → pL → List pV → pS → Prop} (H : px_R l 8 177 rv rσ G) : ∀ (n : Nat) (a1 a3 : Int) (σ : pS), f_M_goesThrough_84_p133 n a1 a3 σ = some (rv, rσ) → G 133 [some (.inr 84), some (.inl a1), none, some (.inl a3)] [] σ := by
  intro n
  induction n with
  | zero =>
    intro a1 a3 σ h
    unfold f_M_goesThrough_84_p133 at h
    cases h
  | succ n ih =>
    intro a1 a3 σ h
    unfold f_M_goesThrough_84_p133 at h
    refine H [((1, 3, 0, 0, []), 1), ((0, 0, 0, 2000, []), 3), ((13, 4, 175, 0, []), 3), ((2, 0, 0, 0, []), 1), ((16, 84, 63, 0, []), 3), ((0, 0, 0, (-5), []), 2), ((13, 1, 175, 0, []), 3), ((2, 0, 0, 0, []), 1), ((1, 3, 0, 0, []), 1), ((1, 1, 0, 0, []), 1), ((23, 178, 2, 0, [(0, 84)]), 3), ((2, 0, 0, 0, []), 1), ((23, 209, 0, 1, [(0, 84)]), 3), ((14, 0, 169, 0, []), 3), ((2, 0, 0, 0, []), 1), ((1, 3, 0, 0, []), 1), ((0, 0, 0, 1, []), 1), ((6, 0, 0, 0, []), 1), ((18, 84, 63, 0, []), 3), ((5, 3, 0, 1, []), 3), ((12, 0, 133, 0, []), 3)] 133 _ _ _ (by decide +kernel) ?_
    rcases px_ite h with ⟨c4, h⟩ | ⟨c4, h⟩
    · refine And.intro (fun _ => ?_) (fun hn => absurd c4 hn)
      refine H [((0, 0, 0, 0, []), 1), ((3, 3, 0, 0, []), 1), ((29, 1, 0, 0, []), 0)] 175 _ _ _ (by decide +kernel) ?_
      exact ok_M_goesThrough_84_p177 H _ _ _ h
    · refine And.intro (fun hp => absurd hp c4) (fun _ => ?_)
      rcases px_ite h with ⟨c9, h⟩ | ⟨c9, h⟩
      · refine And.intro (fun hp => absurd c9 hp) (fun _ => ?_)
        obtain ⟨⟨vq10, σq10⟩, hq10, h⟩ := px_bind h
        dsimp only at h
        refine Exists.intro 7 (Exists.intro vq10 (Exists.intro σq10 (And.intro (Nat.le_of_ble_eq_true rfl) (And.intro (ok_M_cycleGoes_84 hq10) ?_))))
        obtain ⟨⟨vq11, σq11⟩, hq11, h⟩ := px_bind h
        dsimp only at h
        refine Exists.intro 0 (Exists.intro vq11 (Exists.intro σq11 (And.intro (Nat.le_of_ble_eq_true rfl) (And.intro (ok_M_isOver_84 hq11) ?_))))
        rcases px_ite h with ⟨c12, h⟩ | ⟨c12, h⟩
        · refine And.intro (fun _ => ?_) (fun hn => absurd c12 hn)
          refine H [((5, 3, 0, 1, []), 3), ((12, 0, 133, 0, []), 3)] 169 _ _ _ (by decide +kernel) ?_
          exact ih _ _ _ h
        · refine And.intro (fun hp => absurd hp c12) (fun _ => ?_)
          exact ih _ _ _ h
      · refine And.intro (fun _ => ?_) (fun hn => absurd c9 hn)
        refine H [((0, 0, 0, 0, []), 1), ((3, 3, 0, 0, []), 1), ((29, 1, 0, 0, []), 0)] 175 _ _ _ (by decide +kernel) ?_
        exact ok_M_goesThrough_84_p177 H _ _ _ h
theorem ok_M_goesThrough_84_p95 {l : Launch} {rv : Int} {rσ : pS} {G : Nat → pL → List pV → pS → Prop} (H : px_R l 8 177 rv rσ G) : ∀ (n : Nat) (a1 a3 : Int) (σ : pS), f_M_goesThrough_84_p95 n a1 a3 σ = some (rv, rσ) → G 95 [some (.inr 84), some (.inl a1), none, some (.inl a3)] [] σ := by
  intro n
  induction n with
  | zero =>
    intro a1 a3 σ h
    unfold f_M_goesThrough_84_p95 at h
    cases h
  | succ n ih =>
    intro a1 a3 σ h
    unfold f_M_goesThrough_84_p95 at h
    refine H [((1, 3, 0, 0, []), 1), ((0, 0, 0, 64, []), 2), ((13, 3, 131, 0, []), 3), ((2, 0, 0, 0, []), 1), ((17, 84, 127, 0, []), 3), ((1, 3, 0, 0, []), 1), ((2, 0, 0, 0, []), 1), ((17, 84, 86, 0, []), 3), ((1, 3, 0, 0, []), 1), ((19, 86, 64, 0, []), 1), ((20, 127, 64, 0, []), 1), ((2, 0, 0, 0, []), 1), ((17, 84, 128, 0, []), 3), ((1, 3, 0, 0, []), 1), ((2, 0, 0, 0, []), 1), ((17, 84, 86, 0, []), 3), ((1, 3, 0, 0, []), 1), ((19, 86, 64, 0, []), 1), ((20, 128, 64, 0, []), 1), ((5, 3, 0, 1, []), 3), ((12, 0, 95, 0, []), 3)] 95 _ _ _ (by decide +kernel) ?_
    rcases px_ite h with ⟨c3, h⟩ | ⟨c3, h⟩
    · refine And.intro (fun _ => ?_) (fun hn => absurd c3 hn)
      refine H [((0, 0, 0, 0, []), 1), ((3, 3, 0, 0, []), 1)] 131 _ _ _ (by decide +kernel) ?_
      exact ok_M_goesThrough_84_p133 H _ _ _ _ h
    · refine And.intro (fun hp => absurd hp c3) (fun _ => ?_)
      obtain ⟨g13, h⟩ := px_gd h
      refine And.intro g13 ?_
      obtain ⟨g14, h⟩ := px_gd h
      refine And.intro g14 ?_
      obtain ⟨g15, h⟩ := px_gd h
      refine And.intro g15 ?_
      obtain ⟨g16, h⟩ := px_gd h
      refine And.intro g16 ?_
      exact ih _ _ _ h
theorem ok_M_goesThrough_84_p38 {l : Launch} {rv : Int} {rσ : pS} {G : Nat → pL → List pV → pS → Prop} (H : px_R l 8 177 rv rσ G) : ∀ (n : Nat) (a1 a3 : Int) (σ : pS), f_M_goesThrough_84_p38 n a1 a3 σ = some (rv, rσ) → G 38 [some (.inr 84), some (.inl a1), none, some (.inl a3)] [] σ := by
  intro n
  induction n with
  | zero =>
    intro a1 a3 σ h
    unfold f_M_goesThrough_84_p38 at h
    cases h
  | succ n ih =>
    intro a1 a3 σ h
    unfold f_M_goesThrough_84_p38 at h
    refine H [((1, 3, 0, 0, []), 1), ((2, 0, 0, 0, []), 1), ((16, 84, 2, 0, []), 3), ((13, 3, 85, 0, []), 3), ((2, 0, 0, 0, []), 1), ((17, 84, 118, 0, []), 3), ((1, 3, 0, 0, []), 1), ((0, 0, 0, 0, []), 1), ((20, 118, 20, 0, []), 1), ((2, 0, 0, 0, []), 1), ((17, 84, 126, 0, []), 3), ((1, 3, 0, 0, []), 1), ((0, 0, 0, 0, []), 1), ((20, 126, 20, 1, []), 1), ((2, 0, 0, 0, []), 1), ((17, 84, 123, 0, []), 3), ((1, 3, 0, 0, []), 1), ((0, 0, 0, 0, []), 1), ((20, 123, 20, 0, []), 1), ((2, 0, 0, 0, []), 1), ((17, 84, 129, 0, []), 3), ((1, 3, 0, 0, []), 1), ((2, 0, 0, 0, []), 1), ((17, 84, 87, 0, []), 3), ((1, 3, 0, 0, []), 1), ((19, 87, 20, 0, []), 1), ((20, 129, 20, 0, []), 1), ((5, 3, 0, 1, []), 3), ((12, 0, 38, 0, []), 3)] 38 _ _ _ (by decide +kernel) ?_
    rcases px_ite h with ⟨c2, h⟩ | ⟨c2, h⟩
    · refine And.intro (fun _ => ?_) (fun hn => absurd c2 hn)
      refine H [((2, 0, 0, 0, []), 1), ((2, 0, 0, 0, []), 1), ((16, 84, 3, 0, []), 3), ((18, 84, 69, 0, []), 3), ((0, 0, 0, 0, []), 1), ((3, 3, 0, 0, []), 1)] 85 _ _ _ (by decide +kernel) ?_
      exact ok_M_goesThrough_84_p95 H _ _ _ _ h
    · refine And.intro (fun hp => absurd hp c2) (fun _ => ?_)
      obtain ⟨g17, h⟩ := px_gd h
      refine And.intro g17 ?_
      obtain ⟨g18, h⟩ := px_gd h
      refine And.intro g18 ?_
      refine And.intro (show (0 : Int) ≤ 0 ∧ (0 : Int) ≤ 1 from by decide) ?_
      obtain ⟨g19, h⟩ := px_gd h
      refine And.intro g19 ?_
      obtain ⟨g20, h⟩ := px_gd h
      refine And.intro g20 ?_
      obtain ⟨g21, h⟩ := px_gd h
      refine And.intro g21 ?_
      exact ih _ _ _ h
theorem ok_M_goesThrough_84_w {l : Launch} {rv : Int} {rσ : pS} {G : Nat → pL → List pV → pS → Prop} (H : px_R l 8 177 rv rσ G) : ∀ (a1 a2 : Int) (σ : pS), f_M_goesThrough_84 a1 a2 σ = some (rv, rσ) → G 0 [some (.inr 84), some (.inl a1), some (.inl a2), none] [] σ := by
  intro a1 a2 σ h
  unfold f_M_goesThrough_84 at h
  refine H [((2, 0, 0, 0, []), 1), ((1, 2, 0, 0, []), 1), ((18, 84, 70, 1, []), 3), ((2, 0, 0, 0, []), 1), ((0, 0, 0, (-5), []), 2), ((18, 84, 63, 0, []), 3), ((2, 0, 0, 0, []), 1), ((0, 0, 0, 0, []), 1), ((18, 84, 64, 0, []), 3), ((2, 0, 0, 0, []), 1), ((0, 0, 0, 0, []), 1), ((18, 84, 65, 0, []), 3), ((2, 0, 0, 0, []), 1), ((0, 0, 0, 0, []), 1), ((18, 84, 66, 0, []), 3), ((2, 0, 0, 0, []), 1), ((0, 0, 0, 0, []), 1), ((18, 84, 67, 0, []), 3), ((2, 0, 0, 0, []), 1), ((0, 0, 0, 0, []), 1), ((18, 84, 68, 0, []), 3), ((0, 0, 0, 0, []), 1), ((3, 3, 0, 0, []), 1), ((29, 2, 0, 0, []), 0)] 0 _ _ _ (by decide +kernel) ?_
  obtain ⟨g1, h⟩ := px_gd h
  refine And.intro g1 ?_
  exact ok_M_goesThrough_84_p38 H _ _ _ _ h
theorem ok_M_goesThrough_84 {l : Launch} {a1 a2 : Int} {σ : pS} {v : Int} {σ1 : pS} (h : f_M_goesThrough_84 a1 a2 σ = some (v, σ1)) : Con l 8 177 [.inr 84, .inl a1, .inl a2] σ v σ1 := Con_mk 3 4 rfl (by decide +kernel) (fun _ H => ok_M_goesThrough_84_w H _ _ _ h)
def f_M_toldOf_84 (a1 : Int) (σ : pS) : Option (Int × pS) := if a1 = 0 then (some (σ 84 63, σ)) else (if a1 = 1 then (some (σ 84 64, σ)) else (if a1 = 2 then (some (σ 84 65, σ)) else (if a1 = 3 then (some (σ 84 66, σ)) else (if a1 = 4 then (some (σ 84 67, σ)) else (some (σ 84 68, σ))))))
theorem ok_M_toldOf_84_w {l : Launch} {rv : Int} {rσ : pS} {G : Nat → pL → List pV → pS → Prop} (H : px_R l 0 211 rv rσ G) : ∀ (a1 : Int) (σ : pS), f_M_toldOf_84 a1 σ = some (rv, rσ) → G 0 [some (.inr 84), some (.inl a1)] [] σ := by
  intro a1 σ h
  unfold f_M_toldOf_84 at h
  refine H [((1, 1, 0, 0, []), 1), ((15, 0, 61, 0, [(0, 36), (1, 41), (2, 46), (3, 51), (4, 56)]), 35)] 0 _ _ _ (by decide +kernel) ?_
  rcases px_ite h with ⟨c1, h⟩ | ⟨c1, h⟩
  · refine And.intro (fun _ => ?_) (fun hn => absurd c1 hn)
    refine H [((2, 0, 0, 0, []), 1), ((16, 84, 63, 0, []), 3), ((27, 0, 0, 0, []), 1)] 36 _ _ _ (by decide +kernel) ?_
    exact Prod.mk.inj (Option.some.inj h)
  · refine And.intro (fun hp => absurd hp c1) (fun _ => ?_)
    rcases px_ite h with ⟨c2, h⟩ | ⟨c2, h⟩
    · refine And.intro (fun _ => ?_) (fun hn => absurd c2 hn)
      refine H [((2, 0, 0, 0, []), 1), ((16, 84, 64, 0, []), 3), ((27, 0, 0, 0, []), 1)] 41 _ _ _ (by decide +kernel) ?_
      exact Prod.mk.inj (Option.some.inj h)
    · refine And.intro (fun hp => absurd hp c2) (fun _ => ?_)
      rcases px_ite h with ⟨c3, h⟩ | ⟨c3, h⟩
      · refine And.intro (fun _ => ?_) (fun hn => absurd c3 hn)
        refine H [((2, 0, 0, 0, []), 1), ((16, 84, 65, 0, []), 3), ((27, 0, 0, 0, []), 1)] 46 _ _ _ (by decide +kernel) ?_
        exact Prod.mk.inj (Option.some.inj h)
      · refine And.intro (fun hp => absurd hp c3) (fun _ => ?_)
        rcases px_ite h with ⟨c4, h⟩ | ⟨c4, h⟩
        · refine And.intro (fun _ => ?_) (fun hn => absurd c4 hn)
          refine H [((2, 0, 0, 0, []), 1), ((16, 84, 66, 0, []), 3), ((27, 0, 0, 0, []), 1)] 51 _ _ _ (by decide +kernel) ?_
          exact Prod.mk.inj (Option.some.inj h)
        · refine And.intro (fun hp => absurd hp c4) (fun _ => ?_)
          rcases px_ite h with ⟨c5, h⟩ | ⟨c5, h⟩
          · refine And.intro (fun _ => ?_) (fun hn => absurd c5 hn)
            refine H [((2, 0, 0, 0, []), 1), ((16, 84, 67, 0, []), 3), ((27, 0, 0, 0, []), 1)] 56 _ _ _ (by decide +kernel) ?_
            exact Prod.mk.inj (Option.some.inj h)
          · refine And.intro (fun hp => absurd hp c5) (fun _ => ?_)
            refine H [((2, 0, 0, 0, []), 1), ((16, 84, 68, 0, []), 3), ((27, 0, 0, 0, []), 1)] 61 _ _ _ (by decide +kernel) ?_
            exact Prod.mk.inj (Option.some.inj h)
theorem ok_M_toldOf_84 {l : Launch} {a1 : Int} {σ : pS} {v : Int} {σ1 : pS} (h : f_M_toldOf_84 a1 σ = some (v, σ1)) : Con l 0 211 [.inr 84, .inl a1] σ v σ1 := Con_mk 2 2 rfl (by decide +kernel) (fun _ H => ok_M_toldOf_84_w H _ _ h)
def f_M_putsSetsBack_84_p2 : Nat → Int → pS → Option (Int × pS)
  | 0, _, _ => none
  | n + 1, a1, σ => if (σ 84 2) ≤ a1 then (some (0, pU σ 84 3 (σ 84 69))) else (if 0 ≤ a1 ∧ a1 < 20 then (if 0 ≤ a1 ∧ a1 < 20 then (f_M_putsSetsBack_84_p2 n (pw (a1 + 1)) (pU σ 87 (a1.toNat) (σ 129 a1.toNat))) else none) else none)
def f_M_putsSetsBack_84 (σ : pS) : Option (Int × pS) := f_M_putsSetsBack_84_p2 4096 0 σ
theorem ok_M_putsSetsBack_84_p2 {l : Launch} {rv : Int} {rσ : pS} {G : Nat → pL → List pV → pS → Prop} (H : px_R l 0 210 rv rσ G) : ∀ (n : Nat) (a1 : Int) (σ : pS), f_M_putsSetsBack_84_p2 n a1 σ = some (rv, rσ) → G 2 [some (.inr 84), some (.inl a1)] [] σ := by
  intro n
  induction n with
  | zero =>
    intro a1 σ h
    unfold f_M_putsSetsBack_84_p2 at h
    cases h
  | succ n ih =>
    intro a1 σ h
    unfold f_M_putsSetsBack_84_p2 at h
    refine H [((1, 1, 0, 0, []), 1), ((2, 0, 0, 0, []), 1), ((16, 84, 2, 0, []), 3), ((13, 3, 28, 0, []), 3), ((2, 0, 0, 0, []), 1), ((17, 84, 87, 0, []), 3), ((1, 1, 0, 0, []), 1), ((2, 0, 0, 0, []), 1), ((17, 84, 129, 0, []), 3), ((1, 1, 0, 0, []), 1), ((19, 129, 20, 0, []), 1), ((20, 87, 20, 0, []), 1), ((5, 1, 0, 1, []), 3), ((12, 0, 2, 0, []), 3)] 2 _ _ _ (by decide +kernel) ?_
    rcases px_ite h with ⟨c1, h⟩ | ⟨c1, h⟩
    · refine And.intro (fun _ => ?_) (fun hn => absurd c1 hn)
      refine H [((2, 0, 0, 0, []), 1), ((2, 0, 0, 0, []), 1), ((16, 84, 69, 0, []), 3), ((18, 84, 3, 0, []), 3), ((28, 0, 0, 0, []), 1)] 28 _ _ _ (by decide +kernel) ?_
      exact (Prod.mk.inj (Option.some.inj h)).2
    · refine And.intro (fun hp => absurd hp c1) (fun _ => ?_)
      obtain ⟨g2, h⟩ := px_gd h
      refine And.intro g2 ?_
      obtain ⟨g3, h⟩ := px_gd h
      refine And.intro g3 ?_
      exact ih _ _ h
theorem ok_M_putsSetsBack_84_w {l : Launch} {rv : Int} {rσ : pS} {G : Nat → pL → List pV → pS → Prop} (H : px_R l 0 210 rv rσ G) : ∀ (σ : pS), f_M_putsSetsBack_84  σ = some (rv, rσ) → G 0 [some (.inr 84), none] [] σ := by
  intro  σ h
  unfold f_M_putsSetsBack_84 at h
  refine H [((0, 0, 0, 0, []), 1), ((3, 1, 0, 0, []), 1)] 0 _ _ _ (by decide +kernel) ?_
  exact ok_M_putsSetsBack_84_p2 H _ _ _ h
theorem ok_M_putsSetsBack_84 {l : Launch} {σ : pS} {v : Int} {σ1 : pS} (h : f_M_putsSetsBack_84  σ = some (v, σ1)) : Con l 0 210 [.inr 84] σ v σ1 := Con_mk 1 2 rfl (by decide +kernel) (fun _ H => ok_M_putsSetsBack_84_w H  _ h)
def f_M_run_84_p190 : Nat → Int → pS → Option (Int × pS)
  | 0, _, _ => none
  | n + 1, a2, σ => if 80 ≤ a2 then (some (σ 84 63, σ)) else (if 0 ≤ a2 ∧ a2 < 80 then (if 0 ≤ a2 ∧ a2 < 80 then (f_M_run_84_p190 n (pw (a2 + 1)) (pU σ 139 (a2.toNat) (σ 124 a2.toNat))) else none) else none)
def f_M_run_84_p126 : Nat → Int → pS → Option (Int × pS)
  | 0, _, _ => none
  | n + 1, a2, σ => if (σ 84 2) ≤ a2 then (f_M_run_84_p190 4096 0 σ) else (if 0 ≤ a2 ∧ a2 < 20 then (if 0 ≤ a2 ∧ a2 < 20 then (if 0 ≤ a2 ∧ a2 < 20 then (if 0 ≤ a2 ∧ a2 < 20 then (if 0 ≤ a2 ∧ a2 < 20 then (if 0 ≤ a2 ∧ a2 < 20 then (if 0 ≤ a2 ∧ a2 < 20 then (if 0 ≤ a2 ∧ a2 < 20 then (f_M_run_84_p126 n (pw (a2 + 1)) (pU (pU (pU (pU σ 135 (a2.toNat) (σ 122 a2.toNat)) 136 (a2.toNat) (σ 123 a2.toNat)) 137 (a2.toNat) (σ 120 a2.toNat)) 138 (a2.toNat) (σ 121 a2.toNat))) else none) else none) else none) else none) else none) else none) else none) else none)
def f_M_run_84_p101 : Nat → Int → pS → Option (Int × pS)
  | 0, _, _ => none
  | n + 1, a2, σ => if 6 ≤ a2 then (f_M_run_84_p126 4096 0 σ) else ((f_M_toldOf_84 a2 σ).bind fun q21 => (if 0 ≤ a2 ∧ a2 < 6 then (f_M_run_84_p101 n (pw (a2 + 1)) (pU q21.2 134 (a2.toNat) q21.1)) else none))
def f_M_run_84_p70 : Nat → Int → pS → Option (Int × pS)
  | 0, _, _ => none
  | n + 1, a2, σ => if 64 ≤ a2 then (f_M_run_84_p101 4096 0 (pU σ 84 75 1)) else (if 0 ≤ a2 ∧ a2 < 64 then (if 0 ≤ a2 ∧ a2 < 64 then (f_M_run_84_p70 n (pw (a2 + 1)) (pU σ 86 (a2.toNat) (σ 128 a2.toNat))) else none) else none)
def f_M_run_84_p44 : Nat → Int → pS → Option (Int × pS)
  | 0, _, _ => none
  | n + 1, a2, σ => if 8 ≤ a2 then (f_M_run_84_p70 4096 0 σ) else (if 0 ≤ a2 ∧ a2 < 8 then (if 0 ≤ a2 ∧ a2 < 8 then (f_M_run_84_p44 n (pw (a2 + 1)) (pU σ 85 (a2.toNat) (σ 130 a2.toNat))) else none) else none)
def f_M_run_84 (a1 : Int) (σ : pS) : Option (Int × pS) := (f_M_canRun_84 a1 σ).bind fun q1 => (if q1.1 = 0 then (some ((-1), q1.2)) else ((f_M_goesThrough_84 a1 0 q1.2).bind fun q3 => (if q3.1 = 0 then ((f_M_putsSetsBack_84  q3.2).bind fun q27 => (some ((-5), q27.2))) else ((f_M_min 9999 (pw ((q3.2 84 1) + 1)) q3.2).bind fun q5 => (f_M_run_84_p44 4096 0 (pU q5.2 84 1 q5.1))))))
theorem ok_M_run_84_p190 {l : Launch} {rv : Int} {rσ : pS} {G : Nat → pL → List pV → pS → Prop} (H : px_R l 9 175 rv rσ G) : ∀ (n : Nat) (a2 : Int) (σ : pS), f_M_run_84_p190 n a2 σ = some (rv, rσ) → G 190 [some (.inr 84), none, some (.inl a2)] [] σ := by
  intro n
  induction n with
  | zero =>
    intro a2 σ h
    unfold f_M_run_84_p190 at h
    cases h
  | succ n ih =>
    intro a2 σ h
    unfold f_M_run_84_p190 at h
    refine H [((1, 2, 0, 0, []), 1), ((0, 0, 0, 80, []), 2), ((13, 3, 214, 0, []), 3), ((2, 0, 0, 0, []), 1), ((17, 84, 139, 0, []), 3), ((1, 2, 0, 0, []), 1), ((2, 0, 0, 0, []), 1), ((17, 84, 124, 0, []), 3), ((1, 2, 0, 0, []), 1), ((19, 124, 80, 0, []), 1), ((20, 139, 80, 0, []), 1), ((5, 2, 0, 1, []), 3), ((12, 0, 190, 0, []), 3)] 190 _ _ _ (by decide +kernel) ?_
    rcases px_ite h with ⟨c10, h⟩ | ⟨c10, h⟩
    · refine And.intro (fun _ => ?_) (fun hn => absurd c10 hn)
      refine H [((2, 0, 0, 0, []), 1), ((16, 84, 63, 0, []), 3), ((27, 0, 0, 0, []), 1)] 214 _ _ _ (by decide +kernel) ?_
      exact Prod.mk.inj (Option.some.inj h)
    · refine And.intro (fun hp => absurd hp c10) (fun _ => ?_)
      obtain ⟨g11, h⟩ := px_gd h
      refine And.intro g11 ?_
      obtain ⟨g12, h⟩ := px_gd h
      refine And.intro g12 ?_
      exact ih _ _ h
theorem ok_M_run_84_p126 {l : Launch} {rv : Int} {rσ : pS} {G : Nat → pL → List pV → pS → Prop} (H : px_R l 9 175 rv rσ G) : ∀ (n : Nat) (a2 : Int) (σ : pS), f_M_run_84_p126 n a2 σ = some (rv, rσ) → G 126 [some (.inr 84), none, some (.inl a2)] [] σ := by
  intro n
  induction n with
  | zero =>
    intro a2 σ h
    unfold f_M_run_84_p126 at h
    cases h
  | succ n ih =>
    intro a2 σ h
    unfold f_M_run_84_p126 at h
    refine H [((1, 2, 0, 0, []), 1), ((2, 0, 0, 0, []), 1), ((16, 84, 2, 0, []), 3), ((13, 3, 188, 0, []), 3), ((2, 0, 0, 0, []), 1), ((17, 84, 135, 0, []), 3), ((1, 2, 0, 0, []), 1), ((2, 0, 0, 0, []), 1), ((17, 84, 122, 0, []), 3), ((1, 2, 0, 0, []), 1), ((19, 122, 20, 0, []), 1), ((20, 135, 20, 0, []), 1), ((2, 0, 0, 0, []), 1), ((17, 84, 136, 0, []), 3), ((1, 2, 0, 0, []), 1), ((2, 0, 0, 0, []), 1), ((17, 84, 123, 0, []), 3), ((1, 2, 0, 0, []), 1), ((19, 123, 20, 0, []), 1), ((20, 136, 20, 0, []), 1), ((2, 0, 0, 0, []), 1), ((17, 84, 137, 0, []), 3), ((1, 2, 0, 0, []), 1), ((2, 0, 0, 0, []), 1), ((17, 84, 120, 0, []), 3), ((1, 2, 0, 0, []), 1), ((19, 120, 20, 0, []), 1), ((20, 137, 20, 0, []), 1), ((2, 0, 0, 0, []), 1), ((17, 84, 138, 0, []), 3), ((1, 2, 0, 0, []), 1), ((2, 0, 0, 0, []), 1), ((17, 84, 121, 0, []), 3), ((1, 2, 0, 0, []), 1), ((19, 121, 20, 0, []), 1), ((20, 138, 20, 0, []), 1), ((5, 2, 0, 1, []), 3), ((12, 0, 126, 0, []), 3)] 126 _ _ _ (by decide +kernel) ?_
    rcases px_ite h with ⟨c9, h⟩ | ⟨c9, h⟩
    · refine And.intro (fun _ => ?_) (fun hn => absurd c9 hn)
      refine H [((0, 0, 0, 0, []), 1), ((3, 2, 0, 0, []), 1)] 188 _ _ _ (by decide +kernel) ?_
      exact ok_M_run_84_p190 H _ _ _ h
    · refine And.intro (fun hp => absurd hp c9) (fun _ => ?_)
      obtain ⟨g13, h⟩ := px_gd h
      refine And.intro g13 ?_
      obtain ⟨g14, h⟩ := px_gd h
      refine And.intro g14 ?_
      obtain ⟨g15, h⟩ := px_gd h
      refine And.intro g15 ?_
      obtain ⟨g16, h⟩ := px_gd h
      refine And.intro g16 ?_
      obtain ⟨g17, h⟩ := px_gd h
      refine And.intro g17 ?_
      obtain ⟨g18, h⟩ := px_gd h
      refine And.intro g18 ?_
      obtain ⟨g19, h⟩ := px_gd h
      refine And.intro g19 ?_
      obtain ⟨g20, h⟩ := px_gd h
      refine And.intro g20 ?_
      exact ih _ _ h
theorem ok_M_run_84_p101 {l : Launch} {rv : Int} {rσ : pS} {G : Nat → pL → List pV → pS → Prop} (H : px_R l 9 175 rv rσ G) : ∀ (n : Nat) (a2 : Int) (σ : pS), f_M_run_84_p101 n a2 σ = some (rv, rσ) → G 101 [some (.inr 84), none, some (.inl a2)] [] σ := by
  intro n
  induction n with
  | zero =>
    intro a2 σ h
    unfold f_M_run_84_p101 at h
    cases h
  | succ n ih =>
    intro a2 σ h
    unfold f_M_run_84_p101 at h
    refine H [((1, 2, 0, 0, []), 1), ((0, 0, 0, 6, []), 2), ((13, 3, 124, 0, []), 3), ((2, 0, 0, 0, []), 1), ((17, 84, 134, 0, []), 3), ((1, 2, 0, 0, []), 1), ((2, 0, 0, 0, []), 1), ((1, 2, 0, 0, []), 1), ((23, 211, 1, 1, [(0, 84)]), 3), ((20, 134, 6, 0, []), 1), ((5, 2, 0, 1, []), 3), ((12, 0, 101, 0, []), 3)] 101 _ _ _ (by decide +kernel) ?_
    rcases px_ite h with ⟨c8, h⟩ | ⟨c8, h⟩
    · refine And.intro (fun _ => ?_) (fun hn => absurd c8 hn)
      refine H [((0, 0, 0, 0, []), 1), ((3, 2, 0, 0, []), 1)] 124 _ _ _ (by decide +kernel) ?_
      exact ok_M_run_84_p126 H _ _ _ h
    · refine And.intro (fun hp => absurd hp c8) (fun _ => ?_)
      obtain ⟨⟨vq21, σq21⟩, hq21, h⟩ := px_bind h
      dsimp only at h
      refine Exists.intro 0 (Exists.intro vq21 (Exists.intro σq21 (And.intro (Nat.le_of_ble_eq_true rfl) (And.intro (ok_M_toldOf_84 hq21) ?_))))
      obtain ⟨g22, h⟩ := px_gd h
      refine And.intro g22 ?_
      exact ih _ _ h
theorem ok_M_run_84_p70 {l : Launch} {rv : Int} {rσ : pS} {G : Nat → pL → List pV → pS → Prop} (H : px_R l 9 175 rv rσ G) : ∀ (n : Nat) (a2 : Int) (σ : pS), f_M_run_84_p70 n a2 σ = some (rv, rσ) → G 70 [some (.inr 84), none, some (.inl a2)] [] σ := by
  intro n
  induction n with
  | zero =>
    intro a2 σ h
    unfold f_M_run_84_p70 at h
    cases h
  | succ n ih =>
    intro a2 σ h
    unfold f_M_run_84_p70 at h
    refine H [((1, 2, 0, 0, []), 1), ((0, 0, 0, 64, []), 2), ((13, 3, 94, 0, []), 3), ((2, 0, 0, 0, []), 1), ((17, 84, 86, 0, []), 3), ((1, 2, 0, 0, []), 1), ((2, 0, 0, 0, []), 1), ((17, 84, 128, 0, []), 3), ((1, 2, 0, 0, []), 1), ((19, 128, 64, 0, []), 1), ((20, 86, 64, 0, []), 1), ((5, 2, 0, 1, []), 3), ((12, 0, 70, 0, []), 3)] 70 _ _ _ (by decide +kernel) ?_
    rcases px_ite h with ⟨c7, h⟩ | ⟨c7, h⟩
    · refine And.intro (fun _ => ?_) (fun hn => absurd c7 hn)
      refine H [((2, 0, 0, 0, []), 1), ((0, 0, 0, 1, []), 1), ((18, 84, 75, 1, []), 3), ((0, 0, 0, 0, []), 1), ((3, 2, 0, 0, []), 1)] 94 _ _ _ (by decide +kernel) ?_
      refine And.intro (show (0 : Int) ≤ 1 ∧ (1 : Int) ≤ 1 from by decide) ?_
      exact ok_M_run_84_p101 H _ _ _ h
    · refine And.intro (fun hp => absurd hp c7) (fun _ => ?_)
      obtain ⟨g23, h⟩ := px_gd h
      refine And.intro g23 ?_
      obtain ⟨g24, h⟩ := px_gd h
      refine And.intro g24 ?_
      exact ih _ _ h
theorem ok_M_run_84_p44 {l : Launch} {rv : Int} {rσ : pS} {G : Nat → pL → List pV → pS → Prop} (H : px_R l 9 175 rv rσ G) : ∀ (n : Nat) (a2 : Int) (σ : pS), f_M_run_84_p44 n a2 σ = some (rv, rσ) → G 44 [some (.inr 84), none, some (.inl a2)] [] σ := by
  intro n
  induction n with
  | zero =>
    intro a2 σ h
    unfold f_M_run_84_p44 at h
    cases h
  | succ n ih =>
    intro a2 σ h
    unfold f_M_run_84_p44 at h
    refine H [((1, 2, 0, 0, []), 1), ((0, 0, 0, 8, []), 2), ((13, 3, 68, 0, []), 3), ((2, 0, 0, 0, []), 1), ((17, 84, 85, 0, []), 3), ((1, 2, 0, 0, []), 1), ((2, 0, 0, 0, []), 1), ((17, 84, 130, 0, []), 3), ((1, 2, 0, 0, []), 1), ((19, 130, 8, 0, []), 1), ((20, 85, 8, 0, []), 1), ((5, 2, 0, 1, []), 3), ((12, 0, 44, 0, []), 3)] 44 _ _ _ (by decide +kernel) ?_
    rcases px_ite h with ⟨c6, h⟩ | ⟨c6, h⟩
    · refine And.intro (fun _ => ?_) (fun hn => absurd c6 hn)
      refine H [((0, 0, 0, 0, []), 1), ((3, 2, 0, 0, []), 1)] 68 _ _ _ (by decide +kernel) ?_
      exact ok_M_run_84_p70 H _ _ _ h
    · refine And.intro (fun hp => absurd hp c6) (fun _ => ?_)
      obtain ⟨g25, h⟩ := px_gd h
      refine And.intro g25 ?_
      obtain ⟨g26, h⟩ := px_gd h
      refine And.intro g26 ?_
      exact ih _ _ h
theorem ok_M_run_84_w {l : Launch} {rv : Int} {rσ : pS} {G : Nat → pL → List pV → pS → Prop} (H : px_R l 9 175 rv rσ G) : ∀ (a1 : Int) (σ : pS), f_M_run_84 a1 σ = some (rv, rσ) → G 0 [some (.inr 84), some (.inl a1), none] [] σ := by
  intro a1 σ h
  unfold f_M_run_84 at h
  refine H [((2, 0, 0, 0, []), 1), ((1, 1, 0, 0, []), 1), ((23, 176, 1, 1, [(0, 84)]), 3), ((14, 1, 10, 0, []), 3), ((0, 0, 0, (-1), []), 1), ((27, 0, 0, 0, []), 1)] 0 _ _ _ (by decide +kernel) ?_
  obtain ⟨⟨vq1, σq1⟩, hq1, h⟩ := px_bind h
  dsimp only at h
  refine Exists.intro 1 (Exists.intro vq1 (Exists.intro σq1 (And.intro (Nat.le_of_ble_eq_true rfl) (And.intro (ok_M_canRun_84 hq1) ?_))))
  rcases px_ite h with ⟨c2, h⟩ | ⟨c2, h⟩
  · refine And.intro (fun hp => absurd c2 hp) (fun _ => ?_)
    exact Prod.mk.inj (Option.some.inj h)
  · refine And.intro (fun _ => ?_) (fun hn => absurd c2 hn)
    refine H [((2, 0, 0, 0, []), 1), ((1, 1, 0, 0, []), 1), ((0, 0, 0, 0, []), 1), ((23, 177, 2, 1, [(0, 84)]), 3), ((14, 1, 26, 0, []), 3), ((2, 0, 0, 0, []), 1), ((23, 210, 0, 0, [(0, 84)]), 3), ((0, 0, 0, (-5), []), 2), ((27, 0, 0, 0, []), 1)] 10 _ _ _ (by decide +kernel) ?_
    obtain ⟨⟨vq3, σq3⟩, hq3, h⟩ := px_bind h
    dsimp only at h
    refine Exists.intro 8 (Exists.intro vq3 (Exists.intro σq3 (And.intro (Nat.le_of_ble_eq_true rfl) (And.intro (ok_M_goesThrough_84 hq3) ?_))))
    rcases px_ite h with ⟨c4, h⟩ | ⟨c4, h⟩
    · refine And.intro (fun hp => absurd c4 hp) (fun _ => ?_)
      obtain ⟨⟨vq27, σq27⟩, hq27, h⟩ := px_bind h
      dsimp only at h
      refine Exists.intro 0 (Exists.intro vq27 (Exists.intro σq27 (And.intro (Nat.le_of_ble_eq_true rfl) (And.intro (ok_M_putsSetsBack_84 hq27) ?_))))
      exact Prod.mk.inj (Option.some.inj h)
    · refine And.intro (fun _ => ?_) (fun hn => absurd c4 hn)
      refine H [((2, 0, 0, 0, []), 1), ((0, 0, 0, 9999, []), 3), ((2, 0, 0, 0, []), 1), ((16, 84, 1, 0, []), 3), ((0, 0, 0, 1, []), 1), ((6, 0, 0, 0, []), 1), ((24, 190, 2, 1, []), 3), ((18, 84, 1, 0, []), 3), ((0, 0, 0, 0, []), 1), ((3, 2, 0, 0, []), 1), ((29, 1, 0, 0, []), 0)] 26 _ _ _ (by decide +kernel) ?_
      obtain ⟨⟨vq5, σq5⟩, hq5, h⟩ := px_bind h
      dsimp only at h
      refine Exists.intro 0 (Exists.intro vq5 (Exists.intro σq5 (And.intro (Nat.le_of_ble_eq_true rfl) (And.intro (ok_M_min hq5) ?_))))
      exact ok_M_run_84_p44 H _ _ _ h
theorem ok_M_run_84 {l : Launch} {a1 : Int} {σ : pS} {v : Int} {σ1 : pS} (h : f_M_run_84 a1 σ = some (v, σ1)) : Con l 9 175 [.inr 84, .inl a1] σ v σ1 := Con_mk 2 3 rfl (by decide +kernel) (fun _ H => ok_M_run_84_w H _ _ h)
def f_X_register_0 (a1 a2 : Int) (σ : pS) : Option (Int × pS) := if a1 < 0 then (some (0, σ)) else (if a1 < 8 then (if 0 ≤ a1 ∧ a1 < 8 then (some (1, pU σ 25 (a1.toNat) a2)) else none) else (some (0, σ)))
theorem ok_X_register_0_w {l : Launch} {rv : Int} {rσ : pS} {G : Nat → pL → List pV → pS → Prop} (H : px_R l 0 10 rv rσ G) : ∀ (a1 a2 : Int) (σ : pS), f_X_register_0 a1 a2 σ = some (rv, rσ) → G 0 [some (.inr 0), some (.inl a1), some (.inl a2)] [] σ := by
  intro a1 a2 σ h
  unfold f_X_register_0 at h
  refine H [((1, 1, 0, 0, []), 1), ((14, 2, 10, 0, []), 3), ((1, 1, 0, 0, []), 1), ((0, 0, 0, 8, []), 2), ((13, 2, 12, 0, []), 3), ((0, 0, 0, 0, []), 1), ((27, 1, 0, 0, []), 1)] 0 _ _ _ (by decide +kernel) ?_
  rcases px_ite h with ⟨c1, h⟩ | ⟨c1, h⟩
  · refine And.intro (fun _ => ?_) (fun hn => absurd c1 hn)
    refine H [((0, 0, 0, 0, []), 1), ((27, 1, 0, 0, []), 1)] 10 _ _ _ (by decide +kernel) ?_
    refine And.intro (show (0 : Int) ≤ 0 ∧ (0 : Int) ≤ 1 from by decide) ?_
    exact Prod.mk.inj (Option.some.inj h)
  · refine And.intro (fun hp => absurd hp c1) (fun _ => ?_)
    rcases px_ite h with ⟨c2, h⟩ | ⟨c2, h⟩
    · refine And.intro (fun _ => ?_) (fun hn => absurd c2 hn)
      refine H [((2, 0, 0, 0, []), 1), ((17, 0, 3, 0, []), 3), ((17, 3, 24, 0, []), 3), ((17, 24, 25, 0, []), 3), ((1, 1, 0, 0, []), 1), ((1, 2, 0, 0, []), 1), ((20, 25, 8, 0, []), 1), ((0, 0, 0, 1, []), 1), ((27, 1, 0, 0, []), 1)] 12 _ _ _ (by decide +kernel) ?_
      obtain ⟨g3, h⟩ := px_gd h
      refine And.intro g3 ?_
      refine And.intro (show (0 : Int) ≤ 1 ∧ (1 : Int) ≤ 1 from by decide) ?_
      exact Prod.mk.inj (Option.some.inj h)
    · refine And.intro (fun hp => absurd hp c2) (fun _ => ?_)
      refine And.intro (show (0 : Int) ≤ 0 ∧ (0 : Int) ≤ 1 from by decide) ?_
      exact Prod.mk.inj (Option.some.inj h)
theorem ok_X_register_0 {l : Launch} {a1 a2 : Int} {σ : pS} {v : Int} {σ1 : pS} (h : f_X_register_0 a1 a2 σ = some (v, σ1)) : Con l 0 10 [.inr 0, .inl a1, .inl a2] σ v σ1 := Con_mk 3 3 rfl (by decide +kernel) (fun _ H => ok_X_register_0_w H _ _ _ h)
def f_M_register_84 (a1 a2 : Int) (σ : pS) : Option (Int × pS) := (f_M_in a1 0 7 σ).bind fun q1 => (if q1.1 = 0 then (some (0, q1.2)) else (if 0 ≤ a1 ∧ a1 < 8 then (some (1, pU q1.2 85 (a1.toNat) a2)) else none))
theorem ok_M_register_84_w {l : Launch} {rv : Int} {rσ : pS} {G : Nat → pL → List pV → pS → Prop} (H : px_R l 1 136 rv rσ G) : ∀ (a1 a2 : Int) (σ : pS), f_M_register_84 a1 a2 σ = some (rv, rσ) → G 0 [some (.inr 84), some (.inl a1), some (.inl a2)] [] σ := by
  intro a1 a2 σ h
  unfold f_M_register_84 at h
  refine H [((1, 1, 0, 0, []), 1), ((0, 0, 0, 0, []), 1), ((0, 0, 0, 7, []), 2), ((24, 137, 3, 1, []), 3), ((14, 1, 12, 0, []), 3), ((0, 0, 0, 0, []), 1), ((27, 1, 0, 0, []), 1)] 0 _ _ _ (by decide +kernel) ?_
  obtain ⟨⟨vq1, σq1⟩, hq1, h⟩ := px_bind h
  dsimp only at h
  refine Exists.intro 0 (Exists.intro vq1 (Exists.intro σq1 (And.intro (Nat.le_of_ble_eq_true rfl) (And.intro (ok_M_in hq1) ?_))))
  rcases px_ite h with ⟨c2, h⟩ | ⟨c2, h⟩
  · refine And.intro (fun hp => absurd c2 hp) (fun _ => ?_)
    refine And.intro (show (0 : Int) ≤ 0 ∧ (0 : Int) ≤ 1 from by decide) ?_
    exact Prod.mk.inj (Option.some.inj h)
  · refine And.intro (fun _ => ?_) (fun hn => absurd c2 hn)
    refine H [((2, 0, 0, 0, []), 1), ((17, 84, 85, 0, []), 3), ((1, 1, 0, 0, []), 1), ((1, 2, 0, 0, []), 1), ((20, 85, 8, 0, []), 1), ((0, 0, 0, 1, []), 1), ((27, 1, 0, 0, []), 1)] 12 _ _ _ (by decide +kernel) ?_
    obtain ⟨g3, h⟩ := px_gd h
    refine And.intro g3 ?_
    refine And.intro (show (0 : Int) ≤ 1 ∧ (1 : Int) ≤ 1 from by decide) ?_
    exact Prod.mk.inj (Option.some.inj h)
theorem ok_M_register_84 {l : Launch} {a1 a2 : Int} {σ : pS} {v : Int} {σ1 : pS} (h : f_M_register_84 a1 a2 σ = some (v, σ1)) : Con l 1 136 [.inr 84, .inl a1, .inl a2] σ v σ1 := Con_mk 3 3 rfl (by decide +kernel) (fun _ H => ok_M_register_84_w H _ _ _ h)
def f_X_poke_0 (a1 a2 : Int) (σ : pS) : Option (Int × pS) := if a1 < 0 then (some (0, σ)) else (if 64 ≤ a1 then (some (0, σ)) else (if a2 < 0 then (some (0, σ)) else (if a2 ≤ 255 then (if 0 ≤ a1 ∧ a1 < 64 then (some (1, pU σ 26 (a1.toNat) a2)) else none) else (some (0, σ)))))
theorem ok_X_poke_0_w {l : Launch} {rv : Int} {rσ : pS} {G : Nat → pL → List pV → pS → Prop} (H : px_R l 0 11 rv rσ G) : ∀ (a1 a2 : Int) (σ : pS), f_X_poke_0 a1 a2 σ = some (rv, rσ) → G 0 [some (.inr 0), some (.inl a1), some (.inl a2)] [] σ := by
  intro a1 a2 σ h
  unfold f_X_poke_0 at h
  refine H [((1, 1, 0, 0, []), 1), ((14, 2, 21, 0, []), 3), ((1, 1, 0, 0, []), 1), ((0, 0, 0, 64, []), 2), ((13, 3, 21, 0, []), 3), ((1, 2, 0, 0, []), 1), ((14, 2, 21, 0, []), 3), ((1, 2, 0, 0, []), 1), ((0, 0, 0, 255, []), 3), ((13, 5, 23, 0, []), 3), ((0, 0, 0, 0, []), 1), ((27, 1, 0, 0, []), 1)] 0 _ _ _ (by decide +kernel) ?_
  rcases px_ite h with ⟨c1, h⟩ | ⟨c1, h⟩
  · refine And.intro (fun _ => ?_) (fun hn => absurd c1 hn)
    refine H [((0, 0, 0, 0, []), 1), ((27, 1, 0, 0, []), 1)] 21 _ _ _ (by decide +kernel) ?_
    refine And.intro (show (0 : Int) ≤ 0 ∧ (0 : Int) ≤ 1 from by decide) ?_
    exact Prod.mk.inj (Option.some.inj h)
  · refine And.intro (fun hp => absurd hp c1) (fun _ => ?_)
    rcases px_ite h with ⟨c2, h⟩ | ⟨c2, h⟩
    · refine And.intro (fun _ => ?_) (fun hn => absurd c2 hn)
      refine H [((0, 0, 0, 0, []), 1), ((27, 1, 0, 0, []), 1)] 21 _ _ _ (by decide +kernel) ?_
      refine And.intro (show (0 : Int) ≤ 0 ∧ (0 : Int) ≤ 1 from by decide) ?_
      exact Prod.mk.inj (Option.some.inj h)
    · refine And.intro (fun hp => absurd hp c2) (fun _ => ?_)
      rcases px_ite h with ⟨c3, h⟩ | ⟨c3, h⟩
      · refine And.intro (fun _ => ?_) (fun hn => absurd c3 hn)
        refine H [((0, 0, 0, 0, []), 1), ((27, 1, 0, 0, []), 1)] 21 _ _ _ (by decide +kernel) ?_
        refine And.intro (show (0 : Int) ≤ 0 ∧ (0 : Int) ≤ 1 from by decide) ?_
        exact Prod.mk.inj (Option.some.inj h)
      · refine And.intro (fun hp => absurd hp c3) (fun _ => ?_)
        rcases px_ite h with ⟨c4, h⟩ | ⟨c4, h⟩
        · refine And.intro (fun _ => ?_) (fun hn => absurd c4 hn)
          refine H [((2, 0, 0, 0, []), 1), ((17, 0, 3, 0, []), 3), ((17, 3, 24, 0, []), 3), ((17, 24, 26, 0, []), 3), ((1, 1, 0, 0, []), 1), ((1, 2, 0, 0, []), 1), ((20, 26, 64, 0, []), 1), ((0, 0, 0, 1, []), 1), ((27, 1, 0, 0, []), 1)] 23 _ _ _ (by decide +kernel) ?_
          obtain ⟨g5, h⟩ := px_gd h
          refine And.intro g5 ?_
          refine And.intro (show (0 : Int) ≤ 1 ∧ (1 : Int) ≤ 1 from by decide) ?_
          exact Prod.mk.inj (Option.some.inj h)
        · refine And.intro (fun hp => absurd hp c4) (fun _ => ?_)
          refine And.intro (show (0 : Int) ≤ 0 ∧ (0 : Int) ≤ 1 from by decide) ?_
          exact Prod.mk.inj (Option.some.inj h)
theorem ok_X_poke_0 {l : Launch} {a1 a2 : Int} {σ : pS} {v : Int} {σ1 : pS} (h : f_X_poke_0 a1 a2 σ = some (v, σ1)) : Con l 0 11 [.inr 0, .inl a1, .inl a2] σ v σ1 := Con_mk 3 3 rfl (by decide +kernel) (fun _ H => ok_X_poke_0_w H _ _ _ h)
