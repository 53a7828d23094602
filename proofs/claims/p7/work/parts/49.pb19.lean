theorem ok_M_bytesThere_84_p4 {l : Launch} {rv : Int} {rσ : pS} {G : Nat → pL → List pV → pS → Prop} (H : px_R l 0 241 rv rσ G) : ∀ (n : Nat) (a1 a2 : Int) (σ : pS), f_M_bytesThere_84_p4 n a1 a2 σ = some (rv, rσ) → G 4 [some (.inr 84), some (.inl a1), some (.inl a2)] [] σ := by
  intro n
  induction n with
  | zero =>
    intro a1 a2 σ h
    unfold f_M_bytesThere_84_p4 at h
    cases h
  | succ n ih =>
    intro a1 a2 σ h
    unfold f_M_bytesThere_84_p4 at h
    refine H [((1, 2, 0, 0, []), 1), ((0, 0, 0, 64, []), 2), ((13, 3, 29, 0, []), 3), ((2, 0, 0, 0, []), 1), ((17, 84, 86, 0, []), 3), ((1, 2, 0, 0, []), 1), ((19, 86, 64, 0, []), 1), ((14, 0, 23, 0, []), 3), ((1, 1, 0, 0, []), 1), ((0, 0, 0, 1, []), 1), ((6, 0, 0, 0, []), 1), ((3, 1, 0, 0, []), 1), ((5, 2, 0, 1, []), 3), ((12, 0, 4, 0, []), 3)] 4 _ _ _ (by decide +kernel) ?_
    rcases px_ite h with ⟨c1, h⟩ | ⟨c1, h⟩
    · refine And.intro (fun _ => ?_) (fun hn => absurd c1 hn)
      refine H [((1, 1, 0, 0, []), 1), ((27, 0, 0, 0, []), 1)] 29 _ _ _ (by decide +kernel) ?_
      exact Prod.mk.inj (Option.some.inj h)
    · refine And.intro (fun hp => absurd hp c1) (fun _ => ?_)
      obtain ⟨g2, h⟩ := px_gd h
      refine And.intro g2 ?_
      rcases px_ite h with ⟨c3, h⟩ | ⟨c3, h⟩
      · refine And.intro (fun _ => ?_) (fun hn => absurd c3 hn)
        refine H [((5, 2, 0, 1, []), 3), ((12, 0, 4, 0, []), 3)] 23 _ _ _ (by decide +kernel) ?_
        exact ih _ _ _ h
      · refine And.intro (fun hp => absurd hp c3) (fun _ => ?_)
        exact ih _ _ _ h
theorem ok_M_bytesThere_84_w {l : Launch} {rv : Int} {rσ : pS} {G : Nat → pL → List pV → pS → Prop} (H : px_R l 0 241 rv rσ G) : ∀ (σ : pS), f_M_bytesThere_84  σ = some (rv, rσ) → G 0 [some (.inr 84), none, none] [] σ := by
  intro  σ h
  unfold f_M_bytesThere_84 at h
  refine H [((0, 0, 0, 0, []), 1), ((3, 1, 0, 0, []), 1), ((0, 0, 0, 0, []), 1), ((3, 2, 0, 0, []), 1)] 0 _ _ _ (by decide +kernel) ?_
  exact ok_M_bytesThere_84_p4 H _ _ _ _ h
theorem ok_M_bytesThere_84 {l : Launch} {σ : pS} {v : Int} {σ1 : pS} (h : f_M_bytesThere_84  σ = some (v, σ1)) : Con l 0 241 [.inr 84] σ v σ1 := Con_mk 1 3 rfl (by decide +kernel) (fun _ H => ok_M_bytesThere_84_w H  _ h)
theorem ok_M_count_84_w {l : Launch} {rv : Int} {rσ : pS} {G : Nat → pL → List pV → pS → Prop} (H : px_R l 1 239 rv rσ G) : ∀ (a1 : Int) (σ : pS), f_M_count_84 a1 σ = some (rv, rσ) → G 0 [some (.inr 84), some (.inl a1)] [] σ := by
  intro a1 σ h
  unfold f_M_count_84 at h
  refine H [((1, 1, 0, 0, []), 1), ((15, 0, 135, 0, [(0, 64), (1, 69), (2, 74), (3, 80), (4, 86), (5, 91), (6, 96), (7, 101), (8, 106), (9, 111), (10, 116), (11, 130)]), 63)] 0 _ _ _ (by decide +kernel) ?_
  rcases px_ite h with ⟨c1, h⟩ | ⟨c1, h⟩
  · refine And.intro (fun _ => ?_) (fun hn => absurd c1 hn)
    refine H [((2, 0, 0, 0, []), 1), ((16, 84, 1, 0, []), 3), ((27, 0, 0, 0, []), 1)] 64 _ _ _ (by decide +kernel) ?_
    exact Prod.mk.inj (Option.some.inj h)
  · refine And.intro (fun hp => absurd hp c1) (fun _ => ?_)
    rcases px_ite h with ⟨c2, h⟩ | ⟨c2, h⟩
    · refine And.intro (fun _ => ?_) (fun hn => absurd c2 hn)
      refine H [((2, 0, 0, 0, []), 1), ((16, 84, 2, 0, []), 3), ((27, 0, 0, 0, []), 1)] 69 _ _ _ (by decide +kernel) ?_
      exact Prod.mk.inj (Option.some.inj h)
    · refine And.intro (fun hp => absurd hp c2) (fun _ => ?_)
      rcases px_ite h with ⟨c3, h⟩ | ⟨c3, h⟩
      · refine And.intro (fun _ => ?_) (fun hn => absurd c3 hn)
        refine H [((2, 0, 0, 0, []), 1), ((0, 0, 0, 2, []), 1), ((23, 240, 1, 1, [(0, 84)]), 3), ((27, 0, 0, 0, []), 1)] 74 _ _ _ (by decide +kernel) ?_
        obtain ⟨⟨vq4, σq4⟩, hq4, h⟩ := px_bind h
        dsimp only at h
        refine Exists.intro 0 (Exists.intro vq4 (Exists.intro σq4 (And.intro (Nat.le_of_ble_eq_true rfl) (And.intro (ok_M_ofKind_84 hq4) ?_))))
        exact Prod.mk.inj (Option.some.inj h)
      · refine And.intro (fun hp => absurd hp c3) (fun _ => ?_)
        rcases px_ite h with ⟨c5, h⟩ | ⟨c5, h⟩
        · refine And.intro (fun _ => ?_) (fun hn => absurd c5 hn)
          refine H [((2, 0, 0, 0, []), 1), ((0, 0, 0, 3, []), 1), ((23, 240, 1, 1, [(0, 84)]), 3), ((27, 0, 0, 0, []), 1)] 80 _ _ _ (by decide +kernel) ?_
          obtain ⟨⟨vq6, σq6⟩, hq6, h⟩ := px_bind h
          dsimp only at h
          refine Exists.intro 0 (Exists.intro vq6 (Exists.intro σq6 (And.intro (Nat.le_of_ble_eq_true rfl) (And.intro (ok_M_ofKind_84 hq6) ?_))))
          exact Prod.mk.inj (Option.some.inj h)
        · refine And.intro (fun hp => absurd hp c5) (fun _ => ?_)
          rcases px_ite h with ⟨c7, h⟩ | ⟨c7, h⟩
          · refine And.intro (fun _ => ?_) (fun hn => absurd c7 hn)
            refine H [((2, 0, 0, 0, []), 1), ((16, 84, 27, 0, []), 3), ((27, 0, 0, 0, []), 1)] 86 _ _ _ (by decide +kernel) ?_
            exact Prod.mk.inj (Option.some.inj h)
          · refine And.intro (fun hp => absurd hp c7) (fun _ => ?_)
            rcases px_ite h with ⟨c8, h⟩ | ⟨c8, h⟩
            · refine And.intro (fun _ => ?_) (fun hn => absurd c8 hn)
              refine H [((2, 0, 0, 0, []), 1), ((16, 84, 18, 0, []), 3), ((27, 0, 0, 0, []), 1)] 91 _ _ _ (by decide +kernel) ?_
              exact Prod.mk.inj (Option.some.inj h)
            · refine And.intro (fun hp => absurd hp c8) (fun _ => ?_)
              rcases px_ite h with ⟨c9, h⟩ | ⟨c9, h⟩
              · refine And.intro (fun _ => ?_) (fun hn => absurd c9 hn)
                refine H [((2, 0, 0, 0, []), 1), ((16, 84, 0, 0, []), 3), ((27, 0, 0, 0, []), 1)] 96 _ _ _ (by decide +kernel) ?_
                exact Prod.mk.inj (Option.some.inj h)
              · refine And.intro (fun hp => absurd hp c9) (fun _ => ?_)
                rcases px_ite h with ⟨c10, h⟩ | ⟨c10, h⟩
                · refine And.intro (fun _ => ?_) (fun hn => absurd c10 hn)
                  refine H [((2, 0, 0, 0, []), 1), ((16, 84, 4, 0, []), 3), ((27, 0, 0, 0, []), 1)] 101 _ _ _ (by decide +kernel) ?_
                  exact Prod.mk.inj (Option.some.inj h)
                · refine And.intro (fun hp => absurd hp c10) (fun _ => ?_)
                  rcases px_ite h with ⟨c11, h⟩ | ⟨c11, h⟩
                  · refine And.intro (fun _ => ?_) (fun hn => absurd c11 hn)
                    refine H [((2, 0, 0, 0, []), 1), ((23, 233, 0, 1, [(0, 84)]), 3), ((27, 0, 0, 0, []), 1)] 106 _ _ _ (by decide +kernel) ?_
                    obtain ⟨⟨vq12, σq12⟩, hq12, h⟩ := px_bind h
                    dsimp only at h
                    refine Exists.intro 0 (Exists.intro vq12 (Exists.intro σq12 (And.intro (Nat.le_of_ble_eq_true rfl) (And.intro (ok_M_withSet_84 hq12) ?_))))
                    exact Prod.mk.inj (Option.some.inj h)
                  · refine And.intro (fun hp => absurd hp c11) (fun _ => ?_)
                    rcases px_ite h with ⟨c13, h⟩ | ⟨c13, h⟩
                    · refine And.intro (fun _ => ?_) (fun hn => absurd c13 hn)
                      refine H [((2, 0, 0, 0, []), 1), ((16, 84, 3, 0, []), 3), ((27, 0, 0, 0, []), 1)] 111 _ _ _ (by decide +kernel) ?_
                      exact Prod.mk.inj (Option.some.inj h)
                    · refine And.intro (fun hp => absurd hp c13) (fun _ => ?_)
                      rcases px_ite h with ⟨c14, h⟩ | ⟨c14, h⟩
                      · refine And.intro (fun _ => ?_) (fun hn => absurd c14 hn)
                        refine H [((2, 0, 0, 0, []), 1), ((17, 84, 145, 0, []), 3), ((0, 0, 0, 0, []), 1), ((19, 145, 2, 0, []), 1), ((2, 0, 0, 0, []), 1), ((17, 84, 145, 0, []), 3), ((0, 0, 0, 1, []), 1), ((19, 145, 2, 0, []), 1), ((6, 0, 0, 0, []), 1), ((27, 0, 0, 0, []), 1)] 116 _ _ _ (by decide +kernel) ?_
                        refine And.intro (show (0 : Int) ≤ 0 ∧ (0 : Int) < 2 from by decide) ?_
                        refine And.intro (show (0 : Int) ≤ 1 ∧ (1 : Int) < 2 from by decide) ?_
                        exact Prod.mk.inj (Option.some.inj h)
                      · refine And.intro (fun hp => absurd hp c14) (fun _ => ?_)
                        rcases px_ite h with ⟨c15, h⟩ | ⟨c15, h⟩
                        · refine And.intro (fun _ => ?_) (fun hn => absurd c15 hn)
                          refine H [((2, 0, 0, 0, []), 1), ((23, 241, 0, 1, [(0, 84)]), 3), ((27, 0, 0, 0, []), 1)] 130 _ _ _ (by decide +kernel) ?_
                          obtain ⟨⟨vq16, σq16⟩, hq16, h⟩ := px_bind h
                          dsimp only at h
                          refine Exists.intro 0 (Exists.intro vq16 (Exists.intro σq16 (And.intro (Nat.le_of_ble_eq_true rfl) (And.intro (ok_M_bytesThere_84 hq16) ?_))))
                          exact Prod.mk.inj (Option.some.inj h)
                        · refine And.intro (fun hp => absurd hp c15) (fun _ => ?_)
                          refine H [((0, 0, 0, (-1), []), 1), ((27, 0, 0, 0, []), 1)] 135 _ _ _ (by decide +kernel) ?_
                          exact Prod.mk.inj (Option.some.inj h)
theorem ok_M_count_84 {l : Launch} {a1 : Int} {σ : pS} {v : Int} {σ1 : pS} (h : f_M_count_84 a1 σ = some (v, σ1)) : Con l 1 239 [.inr 84, .inl a1] σ v σ1 := Con_mk 2 2 rfl (by decide +kernel) (fun _ H => ok_M_count_84_w H _ _ h)
