theorem ok_Mach_storedAt_3_w {l : Launch} {rv : Int} {rσ : pS} {G : Nat → pL → List pV → pS → Prop} (H : px_R l 0 71 rv rσ G) : ∀ (a1 a2 : Int) (σ : pS), f_Mach_storedAt_3 a1 a2 σ = some (rv, rσ) → G 0 [some (.inr 3), some (.inl a1), some (.inl a2), none] [] σ := by
  intro a1 a2 σ h
  unfold f_Mach_storedAt_3 at h
  refine H [((1, 2, 0, 0, []), 1), ((2, 0, 0, 0, []), 1), ((17, 3, 32, 0, []), 3), ((17, 32, 37, 0, []), 3), ((1, 1, 0, 0, []), 1), ((19, 37, 20, 0, []), 1), ((6, 1, 0, 0, []), 1), ((0, 0, 0, 63, []), 2), ((6, 3, 0, 0, []), 1), ((3, 3, 0, 0, []), 1), ((2, 0, 0, 0, []), 1), ((17, 3, 32, 0, []), 3), ((17, 32, 36, 0, []), 3), ((1, 1, 0, 0, []), 1), ((19, 36, 20, 0, []), 1), ((0, 0, 0, 8, []), 2), ((1, 3, 0, 0, []), 1), ((6, 2, 0, 0, []), 1), ((6, 8, 0, 0, []), 1), ((0, 0, 0, 255, []), 3), ((6, 3, 0, 0, []), 1), ((27, 0, 0, 0, []), 1)] 0 _ _ _ (by decide +kernel) ?_
  obtain ⟨g1, h⟩ := px_gd h
  refine And.intro g1 ?_
  obtain ⟨g2, h⟩ := px_gd h
  refine And.intro g2 ?_
  exact Prod.mk.inj (Option.some.inj h)
theorem ok_Mach_storedAt_3 {l : Launch} {a1 a2 : Int} {σ : pS} {v : Int} {σ1 : pS} (h : f_Mach_storedAt_3 a1 a2 σ = some (v, σ1)) : Con l 0 71 [.inr 3, .inl a1, .inl a2] σ v σ1 := Con_mk 3 4 rfl (by decide +kernel) (fun _ H => ok_Mach_storedAt_3_w H _ _ _ h)
theorem ok_Mach_takeBytes_3_p69 {l : Launch} {rv : Int} {rσ : pS} {G : Nat → pL → List pV → pS → Prop} (H : px_R l 2 68 rv rσ G) {k_4 : Int → Int → Int → pS → Option (Int × pS)} (hk_4 : ∀ (a1 a2 a3 : Int) (σ : pS), k_4 a1 a2 a3 σ = some (rv, rσ) → G 4 [some (.inr 3), some (.inl a1), some (.inl a2), some (.inl a3), none, none, none] [] σ) : ∀ (a1 a2 a3 a5 s0 : Int) (σ : pS), f_Mach_takeBytes_3_p69 k_4 a1 a2 a3 a5 s0 σ = some (rv, rσ) → G 69 [some (.inr 3), some (.inl a1), some (.inl a2), some (.inl a3), none, some (.inl a5), none] [.inl s0] σ := by
  intro a1 a2 a3 a5 s0 σ h
  unfold f_Mach_takeBytes_3_p69 at h
  refine H [((3, 6, 0, 0, []), 2), ((2, 0, 0, 0, []), 1), ((17, 3, 32, 0, []), 3), ((17, 32, 38, 0, []), 3), ((1, 1, 0, 0, []), 1), ((0, 0, 0, 4, []), 1), ((6, 2, 0, 0, []), 1), ((1, 3, 0, 0, []), 1), ((6, 0, 0, 0, []), 1), ((1, 5, 0, 0, []), 2), ((20, 38, 80, 0, []), 1), ((1, 2, 0, 0, []), 1), ((1, 6, 0, 0, []), 2), ((0, 0, 0, 8, []), 2), ((1, 3, 0, 0, []), 1), ((6, 2, 0, 0, []), 1), ((6, 6, 0, 0, []), 1), ((6, 4, 0, 0, []), 1), ((3, 2, 0, 0, []), 1), ((5, 3, 0, 1, []), 3), ((12, 0, 4, 0, []), 3), ((29, 5, 0, 0, []), 0), ((29, 6, 0, 0, []), 0)] 69 _ _ _ (by decide +kernel) ?_
  obtain ⟨g8, h⟩ := px_gd h
  refine And.intro g8 ?_
  exact hk_4 _ _ _ _ h
theorem ok_Mach_takeBytes_3_p4 {l : Launch} {rv : Int} {rσ : pS} {G : Nat → pL → List pV → pS → Prop} (H : px_R l 2 68 rv rσ G) : ∀ (n : Nat) (a1 a2 a3 : Int) (σ : pS), f_Mach_takeBytes_3_p4 n a1 a2 a3 σ = some (rv, rσ) → G 4 [some (.inr 3), some (.inl a1), some (.inl a2), some (.inl a3), none, none, none] [] σ := by
  intro n
  induction n with
  | zero =>
    intro a1 a2 a3 σ h
    unfold f_Mach_takeBytes_3_p4 at h
    cases h
  | succ n ih =>
    intro a1 a2 a3 σ h
    unfold f_Mach_takeBytes_3_p4 at h
    refine H [((1, 3, 0, 0, []), 1), ((2, 0, 0, 0, []), 1), ((17, 3, 4, 0, []), 3), ((17, 4, 7, 0, []), 3), ((1, 1, 0, 0, []), 1), ((19, 7, 20, 0, []), 1), ((13, 3, 102, 0, []), 3), ((2, 0, 0, 0, []), 1), ((17, 3, 32, 0, []), 3), ((17, 32, 37, 0, []), 3), ((1, 1, 0, 0, []), 1), ((19, 37, 20, 0, []), 1), ((1, 3, 0, 0, []), 1), ((6, 0, 0, 0, []), 1), ((0, 0, 0, 63, []), 2), ((6, 3, 0, 0, []), 1), ((3, 4, 0, 0, []), 2), ((2, 0, 0, 0, []), 1), ((1, 1, 0, 0, []), 1), ((1, 4, 0, 0, []), 2), ((23, 69, 2, 1, [(0, 3)]), 3), ((3, 5, 0, 0, []), 2), ((1, 5, 0, 0, []), 2), ((0, 0, 0, (-1), []), 1), ((13, 1, 61, 0, []), 3), ((2, 0, 0, 0, []), 1), ((17, 3, 24, 0, []), 3), ((17, 24, 26, 0, []), 3), ((1, 4, 0, 0, []), 2), ((19, 26, 64, 0, []), 1), ((12, 0, 69, 0, []), 3), ((29, 4, 0, 0, []), 0)] 4 _ _ _ (by decide +kernel) ?_
    obtain ⟨g1, h⟩ := px_gd h
    refine And.intro g1 ?_
    rcases px_ite h with ⟨c2, h⟩ | ⟨c2, h⟩
    · refine And.intro (fun _ => ?_) (fun hn => absurd c2 hn)
      refine H [((2, 0, 0, 0, []), 1), ((17, 3, 32, 0, []), 3), ((17, 32, 36, 0, []), 3), ((1, 1, 0, 0, []), 1), ((1, 2, 0, 0, []), 1), ((20, 36, 20, 0, []), 1), ((28, 0, 0, 0, []), 1)] 102 _ _ _ (by decide +kernel) ?_
      obtain ⟨g3, h⟩ := px_gd h
      refine And.intro g3 ?_
      exact (Prod.mk.inj (Option.some.inj h)).2
    · refine And.intro (fun hp => absurd hp c2) (fun _ => ?_)
      obtain ⟨g4, h⟩ := px_gd h
      refine And.intro g4 ?_
      obtain ⟨⟨vq5, σq5⟩, hq5, h⟩ := px_bind h
      dsimp only at h
      refine Exists.intro 1 (Exists.intro vq5 (Exists.intro σq5 (And.intro (Nat.le_of_ble_eq_true rfl) (And.intro (ok_Mach_youngestCovering_3 hq5) ?_))))
      rcases px_ite h with ⟨c6, h⟩ | ⟨c6, h⟩
      · refine And.intro (fun hp => absurd c6 hp) (fun _ => ?_)
        obtain ⟨g9, h⟩ := px_gd h
        refine And.intro g9 ?_
        exact ok_Mach_takeBytes_3_p69 H ih _ _ _ _ _ _ h
      · refine And.intro (fun _ => ?_) (fun hn => absurd c6 hn)
        refine H [((2, 0, 0, 0, []), 1), ((1, 5, 0, 0, []), 2), ((1, 4, 0, 0, []), 2), ((23, 71, 2, 1, [(0, 3)]), 3), ((29, 4, 0, 0, []), 0)] 61 _ _ _ (by decide +kernel) ?_
        obtain ⟨⟨vq7, σq7⟩, hq7, h⟩ := px_bind h
        dsimp only at h
        refine Exists.intro 0 (Exists.intro vq7 (Exists.intro σq7 (And.intro (Nat.le_of_ble_eq_true rfl) (And.intro (ok_Mach_storedAt_3 hq7) ?_))))
        exact ok_Mach_takeBytes_3_p69 H ih _ _ _ _ _ _ h
theorem ok_Mach_takeBytes_3_w {l : Launch} {rv : Int} {rσ : pS} {G : Nat → pL → List pV → pS → Prop} (H : px_R l 2 68 rv rσ G) : ∀ (a1 : Int) (σ : pS), f_Mach_takeBytes_3 a1 σ = some (rv, rσ) → G 0 [some (.inr 3), some (.inl a1), none, none, none, none, none] [] σ := by
  intro a1 σ h
  unfold f_Mach_takeBytes_3 at h
  refine H [((0, 0, 0, 0, []), 1), ((3, 2, 0, 0, []), 1), ((0, 0, 0, 0, []), 1), ((3, 3, 0, 0, []), 1)] 0 _ _ _ (by decide +kernel) ?_
  exact ok_Mach_takeBytes_3_p4 H _ _ _ _ _ h
theorem ok_Mach_takeBytes_3 {l : Launch} {a1 : Int} {σ : pS} {v : Int} {σ1 : pS} (h : f_Mach_takeBytes_3 a1 σ = some (v, σ1)) : Con l 2 68 [.inr 3, .inl a1] σ v σ1 := Con_mk 2 7 rfl (by decide +kernel) (fun _ H => ok_Mach_takeBytes_3_w H _ _ h)
theorem ok_Mach_finishOps_3_p2 {l : Launch} {rv : Int} {rσ : pS} {G : Nat → pL → List pV → pS → Prop} (H : px_R l 4 65 rv rσ G) : ∀ (n : Nat) (a1 : Int) (σ : pS), f_Mach_finishOps_3_p2 n a1 σ = some (rv, rσ) → G 2 [some (.inr 3), some (.inl a1), none, none] [] σ := by
  intro n
  induction n with
  | zero =>
    intro a1 σ h
    unfold f_Mach_finishOps_3_p2 at h
    cases h
  | succ n ih =>
    intro a1 σ h
    unfold f_Mach_finishOps_3_p2 at h
    refine H [((1, 1, 0, 0, []), 1), ((2, 0, 0, 0, []), 1), ((17, 3, 4, 0, []), 3), ((16, 4, 11, 0, []), 3), ((13, 3, 226, 0, []), 3), ((2, 0, 0, 0, []), 1), ((17, 3, 39, 0, []), 3), ((1, 1, 0, 0, []), 1), ((19, 39, 20, 0, []), 1), ((0, 0, 0, 1, []), 1), ((13, 1, 220, 0, []), 3), ((2, 0, 0, 0, []), 1), ((17, 3, 40, 0, []), 3), ((1, 1, 0, 0, []), 1), ((19, 40, 20, 0, []), 1), ((2, 0, 0, 0, []), 1), ((16, 3, 11, 0, []), 3), ((13, 0, 39, 0, []), 3), ((12, 0, 220, 0, []), 3), ((5, 1, 0, 1, []), 3), ((12, 0, 2, 0, []), 3)] 2 _ _ _ (by decide +kernel) ?_
    rcases px_ite h with ⟨c1, h⟩ | ⟨c1, h⟩
    · refine And.intro (fun _ => ?_) (fun hn => absurd c1 hn)
      refine H [((28, 0, 0, 0, []), 1)] 226 _ _ _ (by decide +kernel) ?_
      exact (Prod.mk.inj (Option.some.inj h)).2
    · refine And.intro (fun hp => absurd hp c1) (fun _ => ?_)
      obtain ⟨g2, h⟩ := px_gd h
      refine And.intro g2 ?_
      rcases px_ite h with ⟨c3, h⟩ | ⟨c3, h⟩
      · refine And.intro (fun hp => absurd c3 hp) (fun _ => ?_)
        obtain ⟨g4, h⟩ := px_gd h
        refine And.intro g4 ?_
        rcases px_ite h with ⟨c5, h⟩ | ⟨c5, h⟩
        · refine And.intro (fun _ => ?_) (fun hn => absurd c5 hn)
          refine H [((2, 0, 0, 0, []), 1), ((17, 3, 39, 0, []), 3), ((1, 1, 0, 0, []), 1), ((0, 0, 0, 2, []), 1), ((20, 39, 20, 0, []), 1), ((2, 0, 0, 0, []), 1), ((17, 3, 32, 0, []), 3), ((17, 32, 34, 0, []), 3), ((1, 1, 0, 0, []), 1), ((2, 0, 0, 0, []), 1), ((16, 3, 11, 0, []), 3), ((20, 34, 20, 0, []), 1), ((2, 0, 0, 0, []), 1), ((2, 0, 0, 0, []), 1), ((17, 3, 4, 0, []), 3), ((17, 4, 12, 0, []), 3), ((1, 1, 0, 0, []), 1), ((19, 12, 20, 0, []), 1), ((2, 0, 0, 0, []), 1), ((17, 3, 4, 0, []), 3), ((17, 4, 9, 0, []), 3), ((1, 1, 0, 0, []), 1), ((19, 9, 20, 0, []), 1), ((23, 66, 2, 1, [(0, 3)]), 3), ((3, 2, 0, 0, []), 1), ((2, 0, 0, 0, []), 1), ((2, 0, 0, 0, []), 1), ((17, 3, 4, 0, []), 3), ((17, 4, 13, 0, []), 3), ((1, 1, 0, 0, []), 1), ((19, 13, 20, 0, []), 1), ((2, 0, 0, 0, []), 1), ((17, 3, 4, 0, []), 3), ((17, 4, 10, 0, []), 3), ((1, 1, 0, 0, []), 1), ((19, 10, 20, 0, []), 1), ((23, 66, 2, 1, [(0, 3)]), 3), ((3, 3, 0, 0, []), 1), ((2, 0, 0, 0, []), 1), ((17, 3, 4, 0, []), 3), ((17, 4, 5, 0, []), 3), ((1, 1, 0, 0, []), 1), ((19, 5, 20, 0, []), 1), ((0, 0, 0, 2, []), 1), ((13, 1, 144, 0, []), 3), ((2, 0, 0, 0, []), 1), ((17, 3, 32, 0, []), 3), ((17, 32, 37, 0, []), 3), ((1, 1, 0, 0, []), 1), ((2, 0, 0, 0, []), 1), ((17, 3, 4, 0, []), 3), ((1, 1, 0, 0, []), 1), ((1, 3, 0, 0, []), 1), ((23, 67, 2, 1, [(0, 4)]), 3), ((20, 37, 20, 0, []), 1), ((2, 0, 0, 0, []), 1), ((1, 1, 0, 0, []), 1), ((23, 68, 1, 0, [(0, 3)]), 3), ((12, 0, 220, 0, []), 3), ((5, 1, 0, 1, []), 3), ((12, 0, 2, 0, []), 3), ((29, 2, 0, 0, []), 0), ((29, 3, 0, 0, []), 0)] 39 _ _ _ (by decide +kernel) ?_
          obtain ⟨g6, h⟩ := px_gd h
          refine And.intro g6 ?_
          obtain ⟨g7, h⟩ := px_gd h
          refine And.intro g7 ?_
          obtain ⟨g8, h⟩ := px_gd h
          refine And.intro g8 ?_
          obtain ⟨g9, h⟩ := px_gd h
          refine And.intro g9 ?_
          obtain ⟨⟨vq10, σq10⟩, hq10, h⟩ := px_bind h
          dsimp only at h
          refine Exists.intro 1 (Exists.intro vq10 (Exists.intro σq10 (And.intro (Nat.le_of_ble_eq_true rfl) (And.intro (ok_Mach_valueRead_3 hq10) ?_))))
          obtain ⟨g11, h⟩ := px_gd h
          refine And.intro g11 ?_
          obtain ⟨g12, h⟩ := px_gd h
          refine And.intro g12 ?_
          obtain ⟨⟨vq13, σq13⟩, hq13, h⟩ := px_bind h
          dsimp only at h
          refine Exists.intro 1 (Exists.intro vq13 (Exists.intro σq13 (And.intro (Nat.le_of_ble_eq_true rfl) (And.intro (ok_Mach_valueRead_3 hq13) ?_))))
          obtain ⟨g14, h⟩ := px_gd h
          refine And.intro g14 ?_
          rcases px_ite h with ⟨c15, h⟩ | ⟨c15, h⟩
          · refine And.intro (fun hp => absurd c15 hp) (fun _ => ?_)
            obtain ⟨⟨vq25, σq25⟩, hq25, h⟩ := px_bind h
            dsimp only at h
            refine Exists.intro 0 (Exists.intro vq25 (Exists.intro σq25 (And.intro (Nat.le_of_ble_eq_true rfl) (And.intro (ok_Prog_placeBy_4 hq25) ?_))))
            obtain ⟨g26, h⟩ := px_gd h
            refine And.intro g26 ?_
            obtain ⟨⟨vq27, σq27⟩, hq27, h⟩ := px_bind h
            dsimp only at h
            refine Exists.intro 2 (Exists.intro vq27 (Exists.intro σq27 (And.intro (Nat.le_of_ble_eq_true rfl) (And.intro (ok_Mach_takeBytes_3 hq27) ?_))))
            exact ih _ _ h
          · refine And.intro (fun _ => ?_) (fun hn => absurd c15 hn)
            refine H [((2, 0, 0, 0, []), 1), ((17, 3, 4, 0, []), 3), ((17, 4, 5, 0, []), 3), ((1, 1, 0, 0, []), 1), ((19, 5, 20, 0, []), 1), ((0, 0, 0, 3, []), 1), ((13, 1, 201, 0, []), 3), ((2, 0, 0, 0, []), 1), ((17, 3, 32, 0, []), 3), ((17, 32, 37, 0, []), 3), ((1, 1, 0, 0, []), 1), ((2, 0, 0, 0, []), 1), ((17, 3, 4, 0, []), 3), ((1, 1, 0, 0, []), 1), ((1, 3, 0, 0, []), 1), ((23, 67, 2, 1, [(0, 4)]), 3), ((20, 37, 20, 0, []), 1), ((2, 0, 0, 0, []), 1), ((17, 3, 32, 0, []), 3), ((17, 32, 36, 0, []), 3), ((1, 1, 0, 0, []), 1), ((2, 0, 0, 0, []), 1), ((17, 3, 4, 0, []), 3), ((1, 1, 0, 0, []), 1), ((1, 2, 0, 0, []), 1), ((23, 72, 2, 1, [(0, 4)]), 3), ((20, 36, 20, 0, []), 1), ((2, 0, 0, 0, []), 1), ((1, 1, 0, 0, []), 1), ((23, 73, 1, 0, [(0, 3)]), 3), ((12, 0, 220, 0, []), 3), ((5, 1, 0, 1, []), 3), ((12, 0, 2, 0, []), 3), ((29, 2, 0, 0, []), 0), ((29, 3, 0, 0, []), 0)] 144 _ _ _ (by decide +kernel) ?_
            obtain ⟨g16, h⟩ := px_gd h
            refine And.intro g16 ?_
            rcases px_ite h with ⟨c17, h⟩ | ⟨c17, h⟩
            · refine And.intro (fun hp => absurd c17 hp) (fun _ => ?_)
              obtain ⟨⟨vq20, σq20⟩, hq20, h⟩ := px_bind h
              dsimp only at h
              refine Exists.intro 0 (Exists.intro vq20 (Exists.intro σq20 (And.intro (Nat.le_of_ble_eq_true rfl) (And.intro (ok_Prog_placeBy_4 hq20) ?_))))
              obtain ⟨g21, h⟩ := px_gd h
              refine And.intro g21 ?_
              obtain ⟨⟨vq22, σq22⟩, hq22, h⟩ := px_bind h
              dsimp only at h
              refine Exists.intro 0 (Exists.intro vq22 (Exists.intro σq22 (And.intro (Nat.le_of_ble_eq_true rfl) (And.intro (ok_Prog_storedOf_4 hq22) ?_))))
              obtain ⟨g23, h⟩ := px_gd h
              refine And.intro g23 ?_
              obtain ⟨⟨vq24, σq24⟩, hq24, h⟩ := px_bind h
              dsimp only at h
              refine Exists.intro 3 (Exists.intro vq24 (Exists.intro σq24 (And.intro (Nat.le_of_ble_eq_true rfl) (And.intro (ok_Mach_lookBack_3 hq24) ?_))))
              exact ih _ _ h
            · refine And.intro (fun _ => ?_) (fun hn => absurd c17 hn)
              refine H [((2, 0, 0, 0, []), 1), ((17, 3, 32, 0, []), 3), ((17, 32, 36, 0, []), 3), ((1, 1, 0, 0, []), 1), ((2, 0, 0, 0, []), 1), ((17, 3, 4, 0, []), 3), ((1, 1, 0, 0, []), 1), ((1, 2, 0, 0, []), 1), ((1, 3, 0, 0, []), 1), ((23, 80, 3, 1, [(0, 4)]), 3), ((20, 36, 20, 0, []), 1), ((5, 1, 0, 1, []), 3), ((12, 0, 2, 0, []), 3), ((29, 2, 0, 0, []), 0), ((29, 3, 0, 0, []), 0)] 201 _ _ _ (by decide +kernel) ?_
              obtain ⟨⟨vq18, σq18⟩, hq18, h⟩ := px_bind h
              dsimp only at h
              refine Exists.intro 0 (Exists.intro vq18 (Exists.intro σq18 (And.intro (Nat.le_of_ble_eq_true rfl) (And.intro (ok_Prog_reckoned_4 hq18) ?_))))
              obtain ⟨g19, h⟩ := px_gd h
              refine And.intro g19 ?_
              exact ih _ _ h
        · refine And.intro (fun hp => absurd hp c5) (fun _ => ?_)
          exact ih _ _ h
      · refine And.intro (fun _ => ?_) (fun hn => absurd c3 hn)
        refine H [((5, 1, 0, 1, []), 3), ((12, 0, 2, 0, []), 3)] 220 _ _ _ (by decide +kernel) ?_
        exact ih _ _ h
theorem ok_Mach_finishOps_3_w {l : Launch} {rv : Int} {rσ : pS} {G : Nat → pL → List pV → pS → Prop} (H : px_R l 4 65 rv rσ G) : ∀ (σ : pS), f_Mach_finishOps_3  σ = some (rv, rσ) → G 0 [some (.inr 3), none, none, none] [] σ := by
  intro  σ h
  unfold f_Mach_finishOps_3 at h
  refine H [((0, 0, 0, 0, []), 1), ((3, 1, 0, 0, []), 1)] 0 _ _ _ (by decide +kernel) ?_
  exact ok_Mach_finishOps_3_p2 H _ _ _ h
theorem ok_Mach_finishOps_3 {l : Launch} {σ : pS} {v : Int} {σ1 : pS} (h : f_Mach_finishOps_3  σ = some (v, σ1)) : Con l 4 65 [.inr 3] σ v σ1 := Con_mk 1 4 rfl (by decide +kernel) (fun _ H => ok_Mach_finishOps_3_w H  _ h)
theorem ok_Mach_isDone_3_w {l : Launch} {rv : Int} {rσ : pS} {G : Nat → pL → List pV → pS → Prop} (H : px_R l 0 82 rv rσ G) : ∀ (a1 : Int) (σ : pS), f_Mach_isDone_3 a1 σ = some (rv, rσ) → G 0 [some (.inr 3), some (.inl a1)] [] σ := by
  intro a1 σ h
  unfold f_Mach_isDone_3 at h
  refine H [((1, 1, 0, 0, []), 1), ((14, 2, 20, 0, []), 3), ((1, 1, 0, 0, []), 1), ((0, 0, 0, 20, []), 2), ((13, 3, 20, 0, []), 3), ((2, 0, 0, 0, []), 1), ((17, 3, 39, 0, []), 3), ((1, 1, 0, 0, []), 1), ((19, 39, 20, 0, []), 1), ((0, 0, 0, 2, []), 1), ((13, 1, 24, 0, []), 3), ((0, 0, 0, 1, []), 1), ((12, 0, 25, 0, []), 3), ((27, 1, 0, 0, []), 1)] 0 _ _ _ (by decide +kernel) ?_
  rcases px_ite h with ⟨c1, h⟩ | ⟨c1, h⟩
  · refine And.intro (fun _ => ?_) (fun hn => absurd c1 hn)
    refine H [((0, 0, 0, 1, []), 1), ((12, 0, 25, 0, []), 3), ((27, 1, 0, 0, []), 1)] 20 _ _ _ (by decide +kernel) ?_
    refine And.intro (show (0 : Int) ≤ 1 ∧ (1 : Int) ≤ 1 from by decide) ?_
    exact Prod.mk.inj (Option.some.inj h)
  · refine And.intro (fun hp => absurd hp c1) (fun _ => ?_)
    rcases px_ite h with ⟨c2, h⟩ | ⟨c2, h⟩
    · refine And.intro (fun _ => ?_) (fun hn => absurd c2 hn)
      refine H [((0, 0, 0, 1, []), 1), ((12, 0, 25, 0, []), 3), ((27, 1, 0, 0, []), 1)] 20 _ _ _ (by decide +kernel) ?_
      refine And.intro (show (0 : Int) ≤ 1 ∧ (1 : Int) ≤ 1 from by decide) ?_
      exact Prod.mk.inj (Option.some.inj h)
    · refine And.intro (fun hp => absurd hp c2) (fun _ => ?_)
      obtain ⟨g3, h⟩ := px_gd h
      refine And.intro g3 ?_
      rcases px_ite h with ⟨c4, h⟩ | ⟨c4, h⟩
      · refine And.intro (fun hp => absurd c4 hp) (fun _ => ?_)
        refine And.intro (show (0 : Int) ≤ 1 ∧ (1 : Int) ≤ 1 from by decide) ?_
        exact Prod.mk.inj (Option.some.inj h)
      · refine And.intro (fun _ => ?_) (fun hn => absurd c4 hn)
        refine H [((0, 0, 0, 0, []), 1), ((27, 1, 0, 0, []), 1)] 24 _ _ _ (by decide +kernel) ?_
        refine And.intro (show (0 : Int) ≤ 0 ∧ (0 : Int) ≤ 1 from by decide) ?_
        exact Prod.mk.inj (Option.some.inj h)
theorem ok_Mach_isDone_3 {l : Launch} {a1 : Int} {σ : pS} {v : Int} {σ1 : pS} (h : f_Mach_isDone_3 a1 σ = some (v, σ1)) : Con l 0 82 [.inr 3, .inl a1] σ v σ1 := Con_mk 2 2 rfl (by decide +kernel) (fun _ H => ok_Mach_isDone_3_w H _ _ h)
theorem ok_Mach_mustWait_3_p90 {l : Launch} {rv : Int} {rσ : pS} {G : Nat → pL → List pV → pS → Prop} (H : px_R l 0 83 rv rσ G) {k_51 : Int → Int → Int → pS → Option (Int × pS)} (hk_51 : ∀ (a3 a4 a5 : Int) (σ : pS), k_51 a3 a4 a5 σ = some (rv, rσ) → G 51 [some (.inr 3), none, none, some (.inl a3), some (.inl a4), some (.inl a5)] [] σ) : ∀ (a3 a4 a5 : Int) (σ : pS), f_Mach_mustWait_3_p90 k_51 a3 a4 a5 σ = some (rv, rσ) → G 90 [some (.inr 3), none, none, some (.inl a3), some (.inl a4), some (.inl a5)] [] σ := by
  intro a3 a4 a5 σ h
  unfold f_Mach_mustWait_3_p90 at h
  refine H [((1, 3, 0, 0, []), 1), ((14, 1, 126, 0, []), 3), ((2, 0, 0, 0, []), 1), ((17, 3, 28, 0, []), 3), ((17, 28, 31, 0, []), 3), ((1, 5, 0, 0, []), 2), ((19, 31, 20, 0, []), 1), ((1, 4, 0, 0, []), 2), ((13, 1, 126, 0, []), 3), ((2, 0, 0, 0, []), 1), ((17, 3, 39, 0, []), 3), ((1, 5, 0, 0, []), 2), ((19, 39, 20, 0, []), 1), ((0, 0, 0, 2, []), 1), ((13, 0, 124, 0, []), 3), ((0, 0, 0, 1, []), 1), ((12, 0, 125, 0, []), 3), ((27, 1, 0, 0, []), 1)] 90 _ _ _ (by decide +kernel) ?_
  rcases px_ite h with ⟨c8, h⟩ | ⟨c8, h⟩
  · refine And.intro (fun hp => absurd c8 hp) (fun _ => ?_)
    obtain ⟨g9, h⟩ := px_gd h
    refine And.intro g9 ?_
    rcases px_ite h with ⟨c10, h⟩ | ⟨c10, h⟩
    · refine And.intro (fun hp => absurd c10 hp) (fun _ => ?_)
      obtain ⟨g11, h⟩ := px_gd h
      refine And.intro g11 ?_
      rcases px_ite h with ⟨c12, h⟩ | ⟨c12, h⟩
      · refine And.intro (fun _ => ?_) (fun hn => absurd c12 hn)
        refine H [((0, 0, 0, 0, []), 1), ((27, 1, 0, 0, []), 1)] 124 _ _ _ (by decide +kernel) ?_
        refine And.intro (show (0 : Int) ≤ 0 ∧ (0 : Int) ≤ 1 from by decide) ?_
        exact Prod.mk.inj (Option.some.inj h)
      · refine And.intro (fun hp => absurd hp c12) (fun _ => ?_)
        refine And.intro (show (0 : Int) ≤ 1 ∧ (1 : Int) ≤ 1 from by decide) ?_
        exact Prod.mk.inj (Option.some.inj h)
    · refine And.intro (fun _ => ?_) (fun hn => absurd c10 hn)
      refine H [((5, 5, 0, (-1), []), 3), ((12, 0, 51, 0, []), 3)] 126 _ _ _ (by decide +kernel) ?_
      exact hk_51 _ _ _ _ h
  · refine And.intro (fun _ => ?_) (fun hn => absurd c8 hn)
    refine H [((5, 5, 0, (-1), []), 3), ((12, 0, 51, 0, []), 3)] 126 _ _ _ (by decide +kernel) ?_
    exact hk_51 _ _ _ _ h
theorem ok_Mach_mustWait_3_p51 {l : Launch} {rv : Int} {rσ : pS} {G : Nat → pL → List pV → pS → Prop} (H : px_R l 0 83 rv rσ G) : ∀ (n : Nat) (a3 a4 a5 : Int) (σ : pS), f_Mach_mustWait_3_p51 n a3 a4 a5 σ = some (rv, rσ) → G 51 [some (.inr 3), none, none, some (.inl a3), some (.inl a4), some (.inl a5)] [] σ := by
  intro n
  induction n with
  | zero =>
    intro a3 a4 a5 σ h
    unfold f_Mach_mustWait_3_p51 at h
    cases h
  | succ n ih =>
    intro a3 a4 a5 σ h
    unfold f_Mach_mustWait_3_p51 at h
    refine H [((1, 5, 0, 0, []), 2), ((14, 2, 132, 0, []), 3), ((2, 0, 0, 0, []), 1), ((17, 3, 4, 0, []), 3), ((17, 4, 5, 0, []), 3), ((1, 5, 0, 0, []), 2), ((19, 5, 20, 0, []), 1), ((0, 0, 0, 3, []), 1), ((13, 0, 73, 0, []), 3), ((12, 0, 126, 0, []), 3), ((5, 5, 0, (-1), []), 3), ((12, 0, 51, 0, []), 3)] 51 _ _ _ (by decide +kernel) ?_
    rcases px_ite h with ⟨c4, h⟩ | ⟨c4, h⟩
    · refine And.intro (fun _ => ?_) (fun hn => absurd c4 hn)
      refine H [((0, 0, 0, 0, []), 1), ((27, 1, 0, 0, []), 1)] 132 _ _ _ (by decide +kernel) ?_
      refine And.intro (show (0 : Int) ≤ 0 ∧ (0 : Int) ≤ 1 from by decide) ?_
      exact Prod.mk.inj (Option.some.inj h)
    · refine And.intro (fun hp => absurd hp c4) (fun _ => ?_)
      obtain ⟨g5, h⟩ := px_gd h
      refine And.intro g5 ?_
      rcases px_ite h with ⟨c6, h⟩ | ⟨c6, h⟩
      · refine And.intro (fun _ => ?_) (fun hn => absurd c6 hn)
        refine H [((1, 3, 0, 0, []), 1), ((14, 0, 90, 0, []), 3), ((2, 0, 0, 0, []), 1), ((17, 3, 39, 0, []), 3), ((1, 5, 0, 0, []), 2), ((19, 39, 20, 0, []), 1), ((0, 0, 0, 2, []), 1), ((13, 0, 90, 0, []), 3), ((0, 0, 0, 1, []), 1), ((27, 1, 0, 0, []), 1)] 73 _ _ _ (by decide +kernel) ?_
        rcases px_ite h with ⟨c7, h⟩ | ⟨c7, h⟩
        · refine And.intro (fun _ => ?_) (fun hn => absurd c7 hn)
          exact ok_Mach_mustWait_3_p90 H ih _ _ _ _ h
        · refine And.intro (fun hp => absurd hp c7) (fun _ => ?_)
          obtain ⟨g13, h⟩ := px_gd h
          refine And.intro g13 ?_
          rcases px_ite h with ⟨c14, h⟩ | ⟨c14, h⟩
          · refine And.intro (fun _ => ?_) (fun hn => absurd c14 hn)
            exact ok_Mach_mustWait_3_p90 H ih _ _ _ _ h
          · refine And.intro (fun hp => absurd hp c14) (fun _ => ?_)
            refine And.intro (show (0 : Int) ≤ 1 ∧ (1 : Int) ≤ 1 from by decide) ?_
            exact Prod.mk.inj (Option.some.inj h)
      · refine And.intro (fun hp => absurd hp c6) (fun _ => ?_)
        exact ih _ _ _ _ h
theorem ok_Mach_mustWait_3_p22 {l : Launch} {rv : Int} {rσ : pS} {G : Nat → pL → List pV → pS → Prop} (H : px_R l 0 83 rv rσ G) : ∀ (a1 s0 : Int) (σ : pS), f_Mach_mustWait_3_p22 a1 s0 σ = some (rv, rσ) → G 22 [some (.inr 3), some (.inl a1), none, none, none, none] [.inl s0] σ := by
  intro a1 s0 σ h
  unfold f_Mach_mustWait_3_p22 at h
  refine H [((3, 3, 0, 0, []), 1), ((2, 0, 0, 0, []), 1), ((17, 3, 28, 0, []), 3), ((17, 28, 31, 0, []), 3), ((1, 1, 0, 0, []), 1), ((19, 31, 20, 0, []), 1), ((3, 4, 0, 0, []), 2), ((1, 3, 0, 0, []), 1), ((14, 1, 46, 0, []), 3), ((1, 4, 0, 0, []), 2), ((0, 0, 0, (-1), []), 1), ((13, 1, 46, 0, []), 3), ((0, 0, 0, 0, []), 1), ((27, 1, 0, 0, []), 1)] 22 _ _ _ (by decide +kernel) ?_
  obtain ⟨g2, h⟩ := px_gd h
  refine And.intro g2 ?_
  rcases px_ite h with ⟨c3, h⟩ | ⟨c3, h⟩
  · refine And.intro (fun hp => absurd c3 hp) (fun _ => ?_)
    rcases px_ite h with ⟨c15, h⟩ | ⟨c15, h⟩
    · refine And.intro (fun hp => absurd c15 hp) (fun _ => ?_)
      refine And.intro (show (0 : Int) ≤ 0 ∧ (0 : Int) ≤ 1 from by decide) ?_
      exact Prod.mk.inj (Option.some.inj h)
    · refine And.intro (fun _ => ?_) (fun hn => absurd c15 hn)
      refine H [((1, 1, 0, 0, []), 1), ((0, 0, 0, 1, []), 1), ((6, 1, 0, 0, []), 1), ((3, 5, 0, 0, []), 2), ((29, 1, 0, 0, []), 0)] 46 _ _ _ (by decide +kernel) ?_
      exact ok_Mach_mustWait_3_p51 H _ _ _ _ _ h
  · refine And.intro (fun _ => ?_) (fun hn => absurd c3 hn)
    refine H [((1, 1, 0, 0, []), 1), ((0, 0, 0, 1, []), 1), ((6, 1, 0, 0, []), 1), ((3, 5, 0, 0, []), 2), ((29, 1, 0, 0, []), 0)] 46 _ _ _ (by decide +kernel) ?_
    exact ok_Mach_mustWait_3_p51 H _ _ _ _ _ h
theorem ok_Mach_mustWait_3_p21 {l : Launch} {rv : Int} {rσ : pS} {G : Nat → pL → List pV → pS → Prop} (H : px_R l 0 83 rv rσ G) : ∀ (a1 : Int) (σ : pS), f_Mach_mustWait_3_p21 a1 σ = some (rv, rσ) → G 21 [some (.inr 3), some (.inl a1), none, none, none, none] [] σ := by
  intro a1 σ h
  unfold f_Mach_mustWait_3_p21 at h
  refine H [((0, 0, 0, 0, []), 1)] 21 _ _ _ (by decide +kernel) ?_
  exact ok_Mach_mustWait_3_p22 H _ _ _ h
theorem ok_Mach_mustWait_3_w {l : Launch} {rv : Int} {rσ : pS} {G : Nat → pL → List pV → pS → Prop} (H : px_R l 0 83 rv rσ G) : ∀ (a1 a2 : Int) (σ : pS), f_Mach_mustWait_3 a1 a2 σ = some (rv, rσ) → G 0 [some (.inr 3), some (.inl a1), some (.inl a2), none, none, none] [] σ := by
  intro a1 a2 σ h
  unfold f_Mach_mustWait_3 at h
  refine H [((1, 2, 0, 0, []), 1), ((14, 0, 21, 0, []), 3), ((2, 0, 0, 0, []), 1), ((17, 3, 4, 0, []), 3), ((17, 4, 5, 0, []), 3), ((1, 1, 0, 0, []), 1), ((19, 5, 20, 0, []), 1), ((0, 0, 0, 2, []), 1), ((13, 1, 21, 0, []), 3), ((0, 0, 0, 1, []), 1), ((12, 0, 22, 0, []), 3), ((29, 2, 0, 0, []), 0)] 0 _ _ _ (by decide +kernel) ?_
  rcases px_ite h with ⟨c1, h⟩ | ⟨c1, h⟩
  · refine And.intro (fun _ => ?_) (fun hn => absurd c1 hn)
    refine H [((29, 2, 0, 0, []), 0)] 21 _ _ _ (by decide +kernel) ?_
    exact ok_Mach_mustWait_3_p21 H _ _ h
  · refine And.intro (fun hp => absurd hp c1) (fun _ => ?_)
    obtain ⟨g16, h⟩ := px_gd h
    refine And.intro g16 ?_
    rcases px_ite h with ⟨c17, h⟩ | ⟨c17, h⟩
    · refine And.intro (fun hp => absurd c17 hp) (fun _ => ?_)
      exact ok_Mach_mustWait_3_p22 H _ _ _ h
    · refine And.intro (fun _ => ?_) (fun hn => absurd c17 hn)
      refine H [((29, 2, 0, 0, []), 0)] 21 _ _ _ (by decide +kernel) ?_
      exact ok_Mach_mustWait_3_p21 H _ _ h
theorem ok_Mach_mustWait_3 {l : Launch} {a1 a2 : Int} {σ : pS} {v : Int} {σ1 : pS} (h : f_Mach_mustWait_3 a1 a2 σ = some (v, σ1)) : Con l 0 83 [.inr 3, .inl a1, .inl a2] σ v σ1 := Con_mk 3 6 rfl (by decide +kernel) (fun _ H => ok_Mach_mustWait_3_w H _ _ _ h)
theorem ok_State_draw_28_w {l : Launch} {rv : Int} {rσ : pS} {G : Nat → pL → List pV → pS → Prop} (H : px_R l 0 84 rv rσ G) : ∀ (σ : pS), f_State_draw_28  σ = some (rv, rσ) → G 0 [some (.inr 28)] [] σ := by
  intro  σ h
  unfold f_State_draw_28 at h
  refine H [((2, 0, 0, 0, []), 1), ((0, 0, 0, 25173, []), 3), ((2, 0, 0, 0, []), 1), ((16, 28, 5, 0, []), 3), ((6, 2, 0, 0, []), 1), ((0, 0, 0, 13849, []), 3), ((6, 0, 0, 0, []), 1), ((0, 0, 0, 65535, []), 2), ((6, 3, 0, 0, []), 1), ((18, 28, 5, 0, []), 3), ((2, 0, 0, 0, []), 1), ((16, 28, 5, 0, []), 3), ((0, 0, 0, 10, []), 2), ((7, 1, 0, 0, []), 1), ((27, 0, 0, 0, []), 1)] 0 _ _ _ (by decide +kernel) ?_
  refine And.intro (show (10 : Int) ≠ 0 from by decide) (fun r1 hr1 => ?_)
  replace hr1 : r1 = pRem (pAnd (pw ((pw (25173 * (σ 28 5))) + 13849)) 65535) 10 := hr1.trans (px_dr_1 _ _)
  try rw [← hr1] at h
  exact Prod.mk.inj (Option.some.inj h)
theorem ok_State_draw_28 {l : Launch} {σ : pS} {v : Int} {σ1 : pS} (h : f_State_draw_28  σ = some (v, σ1)) : Con l 0 84 [.inr 28] σ v σ1 := Con_mk 1 1 rfl (by decide +kernel) (fun _ H => ok_State_draw_28_w H  _ h)
theorem ok_Law_tell_16_w {l : Launch} {rv : Int} {rσ : pS} {G : Nat → pL → List pV → pS → Prop} (H : px_R l 0 86 rv rσ G) : ∀ (a1 a2 a3 a4 a5 a6 a7 : Int) (σ : pS), f_Law_tell_16 a1 a2 a3 a4 a5 a6 a7 σ = some (rv, rσ) → G 0 [some (.inr 16), some (.inl a1), some (.inl a2), some (.inl a3), some (.inl a4), some (.inl a5), some (.inl a6), some (.inl a7)] [] σ := by
  intro a1 a2 a3 a4 a5 a6 a7 σ h
  unfold f_Law_tell_16 at h
  refine H [((2, 0, 0, 0, []), 1), ((17, 16, 22, 0, []), 3), ((0, 0, 0, 0, []), 1), ((1, 1, 0, 0, []), 1), ((20, 22, 7, 0, []), 1), ((2, 0, 0, 0, []), 1), ((17, 16, 22, 0, []), 3), ((0, 0, 0, 1, []), 1), ((1, 2, 0, 0, []), 1), ((20, 22, 7, 0, []), 1), ((2, 0, 0, 0, []), 1), ((17, 16, 22, 0, []), 3), ((0, 0, 0, 2, []), 1), ((1, 3, 0, 0, []), 1), ((20, 22, 7, 0, []), 1), ((2, 0, 0, 0, []), 1), ((17, 16, 22, 0, []), 3), ((0, 0, 0, 3, []), 1), ((1, 4, 0, 0, []), 2), ((20, 22, 7, 0, []), 1), ((2, 0, 0, 0, []), 1), ((17, 16, 22, 0, []), 3), ((0, 0, 0, 4, []), 1), ((1, 5, 0, 0, []), 2), ((20, 22, 7, 0, []), 1), ((2, 0, 0, 0, []), 1), ((17, 16, 22, 0, []), 3), ((0, 0, 0, 5, []), 1), ((1, 6, 0, 0, []), 2), ((20, 22, 7, 0, []), 1), ((2, 0, 0, 0, []), 1), ((17, 16, 22, 0, []), 3), ((0, 0, 0, 6, []), 2), ((1, 7, 0, 0, []), 2), ((20, 22, 7, 0, []), 1), ((28, 0, 0, 0, []), 1)] 0 _ _ _ (by decide +kernel) ?_
  refine And.intro (show (0 : Int) ≤ 0 ∧ (0 : Int) < 7 from by decide) ?_
  refine And.intro (show (0 : Int) ≤ 1 ∧ (1 : Int) < 7 from by decide) ?_
  refine And.intro (show (0 : Int) ≤ 2 ∧ (2 : Int) < 7 from by decide) ?_
  refine And.intro (show (0 : Int) ≤ 3 ∧ (3 : Int) < 7 from by decide) ?_
  refine And.intro (show (0 : Int) ≤ 4 ∧ (4 : Int) < 7 from by decide) ?_
  refine And.intro (show (0 : Int) ≤ 5 ∧ (5 : Int) < 7 from by decide) ?_
  refine And.intro (show (0 : Int) ≤ 6 ∧ (6 : Int) < 7 from by decide) ?_
  exact (Prod.mk.inj (Option.some.inj h)).2
theorem ok_Law_tell_16 {l : Launch} {a1 a2 a3 a4 a5 a6 a7 : Int} {σ : pS} {v : Int} {σ1 : pS} (h : f_Law_tell_16 a1 a2 a3 a4 a5 a6 a7 σ = some (v, σ1)) : Con l 0 86 [.inr 16, .inl a1, .inl a2, .inl a3, .inl a4, .inl a5, .inl a6, .inl a7] σ v σ1 := Con_mk 8 8 rfl (by decide +kernel) (fun _ H => ok_Law_tell_16_w H _ _ _ _ _ _ _ _ h)
theorem ok_Mach_tellLaw_3_p27 {l : Launch} {rv : Int} {rσ : pS} {G : Nat → pL → List pV → pS → Prop} (H : px_R l 1 85 rv rσ G) : ∀ (a1 a2 s0 : Int) (σ : pS), f_Mach_tellLaw_3_p27 a1 a2 s0 σ = some (rv, rσ) → G 27 [some (.inr 3), some (.inl a1), some (.inl a2), none] [.inl s0] σ := by
  intro a1 a2 s0 σ h
  unfold f_Mach_tellLaw_3_p27 at h
  refine H [((3, 3, 0, 0, []), 1), ((2, 0, 0, 0, []), 1), ((17, 3, 16, 0, []), 3), ((1, 1, 0, 0, []), 1), ((2, 0, 0, 0, []), 1), ((17, 3, 4, 0, []), 3), ((17, 4, 5, 0, []), 3), ((1, 1, 0, 0, []), 1), ((19, 5, 20, 0, []), 1), ((2, 0, 0, 0, []), 1), ((16, 3, 11, 0, []), 3), ((0, 0, 0, 100, []), 2), ((7, 1, 0, 0, []), 1), ((1, 3, 0, 0, []), 1), ((2, 0, 0, 0, []), 1), ((17, 3, 32, 0, []), 3), ((17, 32, 35, 0, []), 3), ((1, 1, 0, 0, []), 1), ((19, 35, 20, 0, []), 1), ((2, 0, 0, 0, []), 1), ((17, 3, 24, 0, []), 3), ((16, 24, 4, 0, []), 3), ((0, 0, 0, 100, []), 2), ((7, 1, 0, 0, []), 1), ((1, 2, 0, 0, []), 1), ((23, 86, 7, 0, [(0, 16)]), 3), ((28, 0, 0, 0, []), 1)] 27 _ _ _ (by decide +kernel) ?_
  obtain ⟨g4, h⟩ := px_gd h
  refine And.intro g4 ?_
  refine And.intro (show (100 : Int) ≠ 0 from by decide) (fun r5 hr5 => ?_)
  replace hr5 : r5 = pRem (σ 3 11) 100 := hr5.trans (px_dr_1 _ _)
  try rw [← hr5] at h
  obtain ⟨g6, h⟩ := px_gd h
  refine And.intro g6 ?_
  refine And.intro (show (100 : Int) ≠ 0 from by decide) (fun r7 hr7 => ?_)
  replace hr7 : r7 = pRem (σ 24 4) 100 := hr7.trans (px_dr_1 _ _)
  try rw [← hr7] at h
  obtain ⟨⟨vq8, σq8⟩, hq8, h⟩ := px_bind h
  dsimp only at h
  refine Exists.intro 0 (Exists.intro vq8 (Exists.intro σq8 (And.intro (Nat.le_of_ble_eq_true rfl) (And.intro (ok_Law_tell_16 hq8) ?_))))
  exact (Prod.mk.inj (Option.some.inj h)).2
theorem ok_Mach_tellLaw_3_w {l : Launch} {rv : Int} {rσ : pS} {G : Nat → pL → List pV → pS → Prop} (H : px_R l 1 85 rv rσ G) : ∀ (a1 a2 : Int) (σ : pS), f_Mach_tellLaw_3 a1 a2 σ = some (rv, rσ) → G 0 [some (.inr 3), some (.inl a1), some (.inl a2), none] [] σ := by
  intro a1 a2 σ h
  unfold f_Mach_tellLaw_3 at h
  refine H [((2, 0, 0, 0, []), 1), ((17, 3, 28, 0, []), 3), ((17, 28, 31, 0, []), 3), ((1, 1, 0, 0, []), 1), ((19, 31, 20, 0, []), 1), ((0, 0, 0, (-1), []), 1), ((13, 1, 18, 0, []), 3), ((0, 0, 0, 16, []), 2), ((12, 0, 27, 0, []), 3)] 0 _ _ _ (by decide +kernel) ?_
  obtain ⟨g1, h⟩ := px_gd h
  refine And.intro g1 ?_
  rcases px_ite h with ⟨c2, h⟩ | ⟨c2, h⟩
  · refine And.intro (fun hp => absurd c2 hp) (fun _ => ?_)
    exact ok_Mach_tellLaw_3_p27 H _ _ _ _ h
  · refine And.intro (fun _ => ?_) (fun hn => absurd c2 hn)
    refine H [((2, 0, 0, 0, []), 1), ((17, 3, 28, 0, []), 3), ((17, 28, 31, 0, []), 3), ((1, 1, 0, 0, []), 1), ((19, 31, 20, 0, []), 1)] 18 _ _ _ (by decide +kernel) ?_
    obtain ⟨g3, h⟩ := px_gd h
    refine And.intro g3 ?_
    exact ok_Mach_tellLaw_3_p27 H _ _ _ _ h
theorem ok_Mach_tellLaw_3 {l : Launch} {a1 a2 : Int} {σ : pS} {v : Int} {σ1 : pS} (h : f_Mach_tellLaw_3 a1 a2 σ = some (v, σ1)) : Con l 1 85 [.inr 3, .inl a1, .inl a2] σ v σ1 := Con_mk 3 4 rfl (by decide +kernel) (fun _ H => ok_Mach_tellLaw_3_w H _ _ _ h)
theorem ok_Law_joined_w {l : Launch} {rv : Int} {rσ : pS} {G : Nat → pL → List pV → pS → Prop} (H : px_R l 0 90 rv rσ G) : ∀ (a0 a1 a2 : Int) (σ : pS), f_Law_joined a0 a1 a2 σ = some (rv, rσ) → G 0 [some (.inl a0), some (.inl a1), some (.inl a2)] [] σ := by
  intro a0 a1 a2 σ h
  unfold f_Law_joined at h
  refine H [((1, 0, 0, 0, []), 1), ((15, 0, 157, 0, [(42, 108), (43, 100), (44, 157), (45, 104), (46, 157), (47, 145), (48, 157), (49, 157), (50, 157), (51, 157), (52, 157), (53, 157), (54, 157), (55, 157), (56, 157), (57, 157), (58, 157), (59, 157), (60, 112), (61, 134), (62, 123)]), 99)] 0 _ _ _ (by decide +kernel) ?_
  rcases px_ite h with ⟨c1, h⟩ | ⟨c1, h⟩
  · refine And.intro (fun _ => ?_) (fun hn => absurd c1 hn)
    refine H [((1, 1, 0, 0, []), 1), ((1, 2, 0, 0, []), 1), ((6, 2, 0, 0, []), 1), ((27, 0, 0, 0, []), 1)] 108 _ _ _ (by decide +kernel) ?_
    exact Prod.mk.inj (Option.some.inj h)
  · refine And.intro (fun hp => absurd hp c1) (fun _ => ?_)
    rcases px_ite h with ⟨c2, h⟩ | ⟨c2, h⟩
    · refine And.intro (fun _ => ?_) (fun hn => absurd c2 hn)
      refine H [((1, 1, 0, 0, []), 1), ((1, 2, 0, 0, []), 1), ((6, 0, 0, 0, []), 1), ((27, 0, 0, 0, []), 1)] 100 _ _ _ (by decide +kernel) ?_
      exact Prod.mk.inj (Option.some.inj h)
    · refine And.intro (fun hp => absurd hp c2) (fun _ => ?_)
      rcases px_ite h with ⟨c3, h⟩ | ⟨c3, h⟩
      · refine And.intro (fun _ => ?_) (fun hn => absurd c3 hn)
        refine H [((1, 2, 0, 0, []), 1), ((14, 1, 165, 0, []), 3), ((0, 0, 0, 0, []), 1), ((12, 0, 168, 0, []), 3), ((27, 0, 0, 0, []), 1)] 157 _ _ _ (by decide +kernel) ?_
        rcases px_ite h with ⟨c4, h⟩ | ⟨c4, h⟩
        · refine And.intro (fun hp => absurd c4 hp) (fun _ => ?_)
          exact Prod.mk.inj (Option.some.inj h)
        · refine And.intro (fun _ => ?_) (fun hn => absurd c4 hn)
          refine H [((1, 1, 0, 0, []), 1), ((1, 2, 0, 0, []), 1), ((7, 1, 0, 0, []), 1), ((27, 0, 0, 0, []), 1)] 165 _ _ _ (by decide +kernel) ?_
          obtain ⟨g6, h⟩ := px_gd h
          refine And.intro g6 (fun r5 hr5 => ?_)
          replace hr5 : r5 = pRem a1 a2 := hr5.trans (px_dr_1 _ _)
          try rw [← hr5] at h
          exact Prod.mk.inj (Option.some.inj h)
      · refine And.intro (fun hp => absurd hp c3) (fun _ => ?_)
        rcases px_ite h with ⟨c7, h⟩ | ⟨c7, h⟩
        · refine And.intro (fun _ => ?_) (fun hn => absurd c7 hn)
          refine H [((1, 1, 0, 0, []), 1), ((1, 2, 0, 0, []), 1), ((6, 1, 0, 0, []), 1), ((27, 0, 0, 0, []), 1)] 104 _ _ _ (by decide +kernel) ?_
          exact Prod.mk.inj (Option.some.inj h)
        · refine And.intro (fun hp => absurd hp c7) (fun _ => ?_)
          rcases px_ite h with ⟨c8, h⟩ | ⟨c8, h⟩
          · refine And.intro (fun _ => ?_) (fun hn => absurd c8 hn)
            refine H [((1, 2, 0, 0, []), 1), ((14, 1, 165, 0, []), 3), ((0, 0, 0, 0, []), 1), ((12, 0, 168, 0, []), 3), ((27, 0, 0, 0, []), 1)] 157 _ _ _ (by decide +kernel) ?_
            rcases px_ite h with ⟨c9, h⟩ | ⟨c9, h⟩
            · refine And.intro (fun hp => absurd c9 hp) (fun _ => ?_)
              exact Prod.mk.inj (Option.some.inj h)
            · refine And.intro (fun _ => ?_) (fun hn => absurd c9 hn)
              refine H [((1, 1, 0, 0, []), 1), ((1, 2, 0, 0, []), 1), ((7, 1, 0, 0, []), 1), ((27, 0, 0, 0, []), 1)] 165 _ _ _ (by decide +kernel) ?_
              obtain ⟨g11, h⟩ := px_gd h
              refine And.intro g11 (fun r10 hr10 => ?_)
              replace hr10 : r10 = pRem a1 a2 := hr10.trans (px_dr_1 _ _)
              try rw [← hr10] at h
              exact Prod.mk.inj (Option.some.inj h)
          · refine And.intro (fun hp => absurd hp c8) (fun _ => ?_)
            rcases px_ite h with ⟨c12, h⟩ | ⟨c12, h⟩
            · refine And.intro (fun _ => ?_) (fun hn => absurd c12 hn)
              refine H [((1, 2, 0, 0, []), 1), ((14, 1, 153, 0, []), 3), ((0, 0, 0, 0, []), 1), ((12, 0, 156, 0, []), 3), ((27, 0, 0, 0, []), 1)] 145 _ _ _ (by decide +kernel) ?_
              rcases px_ite h with ⟨c13, h⟩ | ⟨c13, h⟩
              · refine And.intro (fun hp => absurd c13 hp) (fun _ => ?_)
                exact Prod.mk.inj (Option.some.inj h)
              · refine And.intro (fun _ => ?_) (fun hn => absurd c13 hn)
                refine H [((1, 1, 0, 0, []), 1), ((1, 2, 0, 0, []), 1), ((7, 0, 0, 0, []), 1), ((27, 0, 0, 0, []), 1)] 153 _ _ _ (by decide +kernel) ?_
                obtain ⟨g15, h⟩ := px_gd h
                refine And.intro g15 (fun r14 hr14 => ?_)
                replace hr14 : r14 = pDiv a1 a2 := hr14.trans (px_dr_0 _ _)
                try rw [← hr14] at h
                exact Prod.mk.inj (Option.some.inj h)
            · refine And.intro (fun hp => absurd hp c12) (fun _ => ?_)
              rcases px_ite h with ⟨c16, h⟩ | ⟨c16, h⟩
              · refine And.intro (fun _ => ?_) (fun hn => absurd c16 hn)
                refine H [((1, 2, 0, 0, []), 1), ((14, 1, 165, 0, []), 3), ((0, 0, 0, 0, []), 1), ((12, 0, 168, 0, []), 3), ((27, 0, 0, 0, []), 1)] 157 _ _ _ (by decide +kernel) ?_
                rcases px_ite h with ⟨c17, h⟩ | ⟨c17, h⟩
                · refine And.intro (fun hp => absurd c17 hp) (fun _ => ?_)
                  exact Prod.mk.inj (Option.some.inj h)
                · refine And.intro (fun _ => ?_) (fun hn => absurd c17 hn)
                  refine H [((1, 1, 0, 0, []), 1), ((1, 2, 0, 0, []), 1), ((7, 1, 0, 0, []), 1), ((27, 0, 0, 0, []), 1)] 165 _ _ _ (by decide +kernel) ?_
                  obtain ⟨g19, h⟩ := px_gd h
                  refine And.intro g19 (fun r18 hr18 => ?_)
                  replace hr18 : r18 = pRem a1 a2 := hr18.trans (px_dr_1 _ _)
                  try rw [← hr18] at h
                  exact Prod.mk.inj (Option.some.inj h)
              · refine And.intro (fun hp => absurd hp c16) (fun _ => ?_)
                rcases px_ite h with ⟨c20, h⟩ | ⟨c20, h⟩
                · refine And.intro (fun _ => ?_) (fun hn => absurd c20 hn)
                  refine H [((1, 2, 0, 0, []), 1), ((14, 1, 165, 0, []), 3), ((0, 0, 0, 0, []), 1), ((12, 0, 168, 0, []), 3), ((27, 0, 0, 0, []), 1)] 157 _ _ _ (by decide +kernel) ?_
                  rcases px_ite h with ⟨c21, h⟩ | ⟨c21, h⟩
                  · refine And.intro (fun hp => absurd c21 hp) (fun _ => ?_)
                    exact Prod.mk.inj (Option.some.inj h)
                  · refine And.intro (fun _ => ?_) (fun hn => absurd c21 hn)
                    refine H [((1, 1, 0, 0, []), 1), ((1, 2, 0, 0, []), 1), ((7, 1, 0, 0, []), 1), ((27, 0, 0, 0, []), 1)] 165 _ _ _ (by decide +kernel) ?_
                    obtain ⟨g23, h⟩ := px_gd h
                    refine And.intro g23 (fun r22 hr22 => ?_)
                    replace hr22 : r22 = pRem a1 a2 := hr22.trans (px_dr_1 _ _)
                    try rw [← hr22] at h
                    exact Prod.mk.inj (Option.some.inj h)
                · refine And.intro (fun hp => absurd hp c20) (fun _ => ?_)
                  rcases px_ite h with ⟨c24, h⟩ | ⟨c24, h⟩
                  · refine And.intro (fun _ => ?_) (fun hn => absurd c24 hn)
                    refine H [((1, 2, 0, 0, []), 1), ((14, 1, 165, 0, []), 3), ((0, 0, 0, 0, []), 1), ((12, 0, 168, 0, []), 3), ((27, 0, 0, 0, []), 1)] 157 _ _ _ (by decide +kernel) ?_
                    rcases px_ite h with ⟨c25, h⟩ | ⟨c25, h⟩
                    · refine And.intro (fun hp => absurd c25 hp) (fun _ => ?_)
                      exact Prod.mk.inj (Option.some.inj h)
                    · refine And.intro (fun _ => ?_) (fun hn => absurd c25 hn)
                      refine H [((1, 1, 0, 0, []), 1), ((1, 2, 0, 0, []), 1), ((7, 1, 0, 0, []), 1), ((27, 0, 0, 0, []), 1)] 165 _ _ _ (by decide +kernel) ?_
                      obtain ⟨g27, h⟩ := px_gd h
                      refine And.intro g27 (fun r26 hr26 => ?_)
                      replace hr26 : r26 = pRem a1 a2 := hr26.trans (px_dr_1 _ _)
                      try rw [← hr26] at h
                      exact Prod.mk.inj (Option.some.inj h)
                  · refine And.intro (fun hp => absurd hp c24) (fun _ => ?_)
                    rcases px_ite h with ⟨c28, h⟩ | ⟨c28, h⟩
                    · refine And.intro (fun _ => ?_) (fun hn => absurd c28 hn)
                      refine H [((1, 2, 0, 0, []), 1), ((14, 1, 165, 0, []), 3), ((0, 0, 0, 0, []), 1), ((12, 0, 168, 0, []), 3), ((27, 0, 0, 0, []), 1)] 157 _ _ _ (by decide +kernel) ?_
                      rcases px_ite h with ⟨c29, h⟩ | ⟨c29, h⟩
                      · refine And.intro (fun hp => absurd c29 hp) (fun _ => ?_)
                        exact Prod.mk.inj (Option.some.inj h)
                      · refine And.intro (fun _ => ?_) (fun hn => absurd c29 hn)
                        refine H [((1, 1, 0, 0, []), 1), ((1, 2, 0, 0, []), 1), ((7, 1, 0, 0, []), 1), ((27, 0, 0, 0, []), 1)] 165 _ _ _ (by decide +kernel) ?_
                        obtain ⟨g31, h⟩ := px_gd h
                        refine And.intro g31 (fun r30 hr30 => ?_)
                        replace hr30 : r30 = pRem a1 a2 := hr30.trans (px_dr_1 _ _)
                        try rw [← hr30] at h
                        exact Prod.mk.inj (Option.some.inj h)
                    · refine And.intro (fun hp => absurd hp c28) (fun _ => ?_)
                      rcases px_ite h with ⟨c32, h⟩ | ⟨c32, h⟩
                      · refine And.intro (fun _ => ?_) (fun hn => absurd c32 hn)
                        refine H [((1, 2, 0, 0, []), 1), ((14, 1, 165, 0, []), 3), ((0, 0, 0, 0, []), 1), ((12, 0, 168, 0, []), 3), ((27, 0, 0, 0, []), 1)] 157 _ _ _ (by decide +kernel) ?_
                        rcases px_ite h with ⟨c33, h⟩ | ⟨c33, h⟩
                        · refine And.intro (fun hp => absurd c33 hp) (fun _ => ?_)
                          exact Prod.mk.inj (Option.some.inj h)
                        · refine And.intro (fun _ => ?_) (fun hn => absurd c33 hn)
                          refine H [((1, 1, 0, 0, []), 1), ((1, 2, 0, 0, []), 1), ((7, 1, 0, 0, []), 1), ((27, 0, 0, 0, []), 1)] 165 _ _ _ (by decide +kernel) ?_
                          obtain ⟨g35, h⟩ := px_gd h
                          refine And.intro g35 (fun r34 hr34 => ?_)
                          replace hr34 : r34 = pRem a1 a2 := hr34.trans (px_dr_1 _ _)
                          try rw [← hr34] at h
                          exact Prod.mk.inj (Option.some.inj h)
                      · refine And.intro (fun hp => absurd hp c32) (fun _ => ?_)
                        rcases px_ite h with ⟨c36, h⟩ | ⟨c36, h⟩
                        · refine And.intro (fun _ => ?_) (fun hn => absurd c36 hn)
                          refine H [((1, 2, 0, 0, []), 1), ((14, 1, 165, 0, []), 3), ((0, 0, 0, 0, []), 1), ((12, 0, 168, 0, []), 3), ((27, 0, 0, 0, []), 1)] 157 _ _ _ (by decide +kernel) ?_
                          rcases px_ite h with ⟨c37, h⟩ | ⟨c37, h⟩
                          · refine And.intro (fun hp => absurd c37 hp) (fun _ => ?_)
                            exact Prod.mk.inj (Option.some.inj h)
                          · refine And.intro (fun _ => ?_) (fun hn => absurd c37 hn)
                            refine H [((1, 1, 0, 0, []), 1), ((1, 2, 0, 0, []), 1), ((7, 1, 0, 0, []), 1), ((27, 0, 0, 0, []), 1)] 165 _ _ _ (by decide +kernel) ?_
                            obtain ⟨g39, h⟩ := px_gd h
                            refine And.intro g39 (fun r38 hr38 => ?_)
                            replace hr38 : r38 = pRem a1 a2 := hr38.trans (px_dr_1 _ _)
                            try rw [← hr38] at h
                            exact Prod.mk.inj (Option.some.inj h)
                        · refine And.intro (fun hp => absurd hp c36) (fun _ => ?_)
                          rcases px_ite h with ⟨c40, h⟩ | ⟨c40, h⟩
                          · refine And.intro (fun _ => ?_) (fun hn => absurd c40 hn)
                            refine H [((1, 2, 0, 0, []), 1), ((14, 1, 165, 0, []), 3), ((0, 0, 0, 0, []), 1), ((12, 0, 168, 0, []), 3), ((27, 0, 0, 0, []), 1)] 157 _ _ _ (by decide +kernel) ?_
                            rcases px_ite h with ⟨c41, h⟩ | ⟨c41, h⟩
                            · refine And.intro (fun hp => absurd c41 hp) (fun _ => ?_)
                              exact Prod.mk.inj (Option.some.inj h)
                            · refine And.intro (fun _ => ?_) (fun hn => absurd c41 hn)
                              refine H [((1, 1, 0, 0, []), 1), ((1, 2, 0, 0, []), 1), ((7, 1, 0, 0, []), 1), ((27, 0, 0, 0, []), 1)] 165 _ _ _ (by decide +kernel) ?_
                              obtain ⟨g43, h⟩ := px_gd h
                              refine And.intro g43 (fun r42 hr42 => ?_)
                              replace hr42 : r42 = pRem a1 a2 := hr42.trans (px_dr_1 _ _)
                              try rw [← hr42] at h
                              exact Prod.mk.inj (Option.some.inj h)
                          · refine And.intro (fun hp => absurd hp c40) (fun _ => ?_)
                            rcases px_ite h with ⟨c44, h⟩ | ⟨c44, h⟩
                            · refine And.intro (fun _ => ?_) (fun hn => absurd c44 hn)
                              refine H [((1, 2, 0, 0, []), 1), ((14, 1, 165, 0, []), 3), ((0, 0, 0, 0, []), 1), ((12, 0, 168, 0, []), 3), ((27, 0, 0, 0, []), 1)] 157 _ _ _ (by decide +kernel) ?_
                              rcases px_ite h with ⟨c45, h⟩ | ⟨c45, h⟩
                              · refine And.intro (fun hp => absurd c45 hp) (fun _ => ?_)
                                exact Prod.mk.inj (Option.some.inj h)
                              · refine And.intro (fun _ => ?_) (fun hn => absurd c45 hn)
                                refine H [((1, 1, 0, 0, []), 1), ((1, 2, 0, 0, []), 1), ((7, 1, 0, 0, []), 1), ((27, 0, 0, 0, []), 1)] 165 _ _ _ (by decide +kernel) ?_
                                obtain ⟨g47, h⟩ := px_gd h
                                refine And.intro g47 (fun r46 hr46 => ?_)
                                replace hr46 : r46 = pRem a1 a2 := hr46.trans (px_dr_1 _ _)
                                try rw [← hr46] at h
                                exact Prod.mk.inj (Option.some.inj h)
                            · refine And.intro (fun hp => absurd hp c44) (fun _ => ?_)
                              rcases px_ite h with ⟨c48, h⟩ | ⟨c48, h⟩
                              · refine And.intro (fun _ => ?_) (fun hn => absurd c48 hn)
                                refine H [((1, 2, 0, 0, []), 1), ((14, 1, 165, 0, []), 3), ((0, 0, 0, 0, []), 1), ((12, 0, 168, 0, []), 3), ((27, 0, 0, 0, []), 1)] 157 _ _ _ (by decide +kernel) ?_
                                rcases px_ite h with ⟨c49, h⟩ | ⟨c49, h⟩
                                · refine And.intro (fun hp => absurd c49 hp) (fun _ => ?_)
                                  exact Prod.mk.inj (Option.some.inj h)
                                · refine And.intro (fun _ => ?_) (fun hn => absurd c49 hn)
                                  refine H [((1, 1, 0, 0, []), 1), ((1, 2, 0, 0, []), 1), ((7, 1, 0, 0, []), 1), ((27, 0, 0, 0, []), 1)] 165 _ _ _ (by decide +kernel) ?_
                                  obtain ⟨g51, h⟩ := px_gd h
                                  refine And.intro g51 (fun r50 hr50 => ?_)
                                  replace hr50 : r50 = pRem a1 a2 := hr50.trans (px_dr_1 _ _)
                                  try rw [← hr50] at h
                                  exact Prod.mk.inj (Option.some.inj h)
                              · refine And.intro (fun hp => absurd hp c48) (fun _ => ?_)
                                rcases px_ite h with ⟨c52, h⟩ | ⟨c52, h⟩
                                · refine And.intro (fun _ => ?_) (fun hn => absurd c52 hn)
                                  refine H [((1, 2, 0, 0, []), 1), ((14, 1, 165, 0, []), 3), ((0, 0, 0, 0, []), 1), ((12, 0, 168, 0, []), 3), ((27, 0, 0, 0, []), 1)] 157 _ _ _ (by decide +kernel) ?_
                                  rcases px_ite h with ⟨c53, h⟩ | ⟨c53, h⟩
                                  · refine And.intro (fun hp => absurd c53 hp) (fun _ => ?_)
                                    exact Prod.mk.inj (Option.some.inj h)
                                  · refine And.intro (fun _ => ?_) (fun hn => absurd c53 hn)
                                    refine H [((1, 1, 0, 0, []), 1), ((1, 2, 0, 0, []), 1), ((7, 1, 0, 0, []), 1), ((27, 0, 0, 0, []), 1)] 165 _ _ _ (by decide +kernel) ?_
                                    obtain ⟨g55, h⟩ := px_gd h
                                    refine And.intro g55 (fun r54 hr54 => ?_)
                                    replace hr54 : r54 = pRem a1 a2 := hr54.trans (px_dr_1 _ _)
                                    try rw [← hr54] at h
                                    exact Prod.mk.inj (Option.some.inj h)
                                · refine And.intro (fun hp => absurd hp c52) (fun _ => ?_)
                                  rcases px_ite h with ⟨c56, h⟩ | ⟨c56, h⟩
                                  · refine And.intro (fun _ => ?_) (fun hn => absurd c56 hn)
                                    refine H [((1, 2, 0, 0, []), 1), ((14, 1, 165, 0, []), 3), ((0, 0, 0, 0, []), 1), ((12, 0, 168, 0, []), 3), ((27, 0, 0, 0, []), 1)] 157 _ _ _ (by decide +kernel) ?_
                                    rcases px_ite h with ⟨c57, h⟩ | ⟨c57, h⟩
                                    · refine And.intro (fun hp => absurd c57 hp) (fun _ => ?_)
                                      exact Prod.mk.inj (Option.some.inj h)
                                    · refine And.intro (fun _ => ?_) (fun hn => absurd c57 hn)
                                      refine H [((1, 1, 0, 0, []), 1), ((1, 2, 0, 0, []), 1), ((7, 1, 0, 0, []), 1), ((27, 0, 0, 0, []), 1)] 165 _ _ _ (by decide +kernel) ?_
                                      obtain ⟨g59, h⟩ := px_gd h
                                      refine And.intro g59 (fun r58 hr58 => ?_)
                                      replace hr58 : r58 = pRem a1 a2 := hr58.trans (px_dr_1 _ _)
                                      try rw [← hr58] at h
                                      exact Prod.mk.inj (Option.some.inj h)
                                  · refine And.intro (fun hp => absurd hp c56) (fun _ => ?_)
                                    rcases px_ite h with ⟨c60, h⟩ | ⟨c60, h⟩
                                    · refine And.intro (fun _ => ?_) (fun hn => absurd c60 hn)
                                      refine H [((1, 2, 0, 0, []), 1), ((14, 1, 165, 0, []), 3), ((0, 0, 0, 0, []), 1), ((12, 0, 168, 0, []), 3), ((27, 0, 0, 0, []), 1)] 157 _ _ _ (by decide +kernel) ?_
                                      rcases px_ite h with ⟨c61, h⟩ | ⟨c61, h⟩
                                      · refine And.intro (fun hp => absurd c61 hp) (fun _ => ?_)
                                        exact Prod.mk.inj (Option.some.inj h)
                                      · refine And.intro (fun _ => ?_) (fun hn => absurd c61 hn)
                                        refine H [((1, 1, 0, 0, []), 1), ((1, 2, 0, 0, []), 1), ((7, 1, 0, 0, []), 1), ((27, 0, 0, 0, []), 1)] 165 _ _ _ (by decide +kernel) ?_
                                        obtain ⟨g63, h⟩ := px_gd h
                                        refine And.intro g63 (fun r62 hr62 => ?_)
                                        replace hr62 : r62 = pRem a1 a2 := hr62.trans (px_dr_1 _ _)
                                        try rw [← hr62] at h
                                        exact Prod.mk.inj (Option.some.inj h)
                                    · refine And.intro (fun hp => absurd hp c60) (fun _ => ?_)
                                      rcases px_ite h with ⟨c64, h⟩ | ⟨c64, h⟩
                                      · refine And.intro (fun _ => ?_) (fun hn => absurd c64 hn)
                                        refine H [((1, 1, 0, 0, []), 1), ((1, 2, 0, 0, []), 1), ((13, 3, 121, 0, []), 3), ((0, 0, 0, 1, []), 1), ((12, 0, 122, 0, []), 3), ((27, 0, 0, 0, []), 1)] 112 _ _ _ (by decide +kernel) ?_
                                        rcases px_ite h with ⟨c65, h⟩ | ⟨c65, h⟩
                                        · refine And.intro (fun _ => ?_) (fun hn => absurd c65 hn)
                                          refine H [((0, 0, 0, 0, []), 1), ((27, 0, 0, 0, []), 1)] 121 _ _ _ (by decide +kernel) ?_
                                          exact Prod.mk.inj (Option.some.inj h)
                                        · refine And.intro (fun hp => absurd hp c65) (fun _ => ?_)
                                          exact Prod.mk.inj (Option.some.inj h)
                                      · refine And.intro (fun hp => absurd hp c64) (fun _ => ?_)
                                        rcases px_ite h with ⟨c66, h⟩ | ⟨c66, h⟩
                                        · refine And.intro (fun _ => ?_) (fun hn => absurd c66 hn)
                                          refine H [((1, 1, 0, 0, []), 1), ((1, 2, 0, 0, []), 1), ((13, 1, 143, 0, []), 3), ((0, 0, 0, 1, []), 1), ((12, 0, 144, 0, []), 3), ((27, 0, 0, 0, []), 1)] 134 _ _ _ (by decide +kernel) ?_
                                          rcases px_ite h with ⟨c67, h⟩ | ⟨c67, h⟩
                                          · refine And.intro (fun hp => absurd c67 hp) (fun _ => ?_)
                                            exact Prod.mk.inj (Option.some.inj h)
                                          · refine And.intro (fun _ => ?_) (fun hn => absurd c67 hn)
                                            refine H [((0, 0, 0, 0, []), 1), ((27, 0, 0, 0, []), 1)] 143 _ _ _ (by decide +kernel) ?_
                                            exact Prod.mk.inj (Option.some.inj h)
                                        · refine And.intro (fun hp => absurd hp c66) (fun _ => ?_)
                                          rcases px_ite h with ⟨c68, h⟩ | ⟨c68, h⟩
                                          · refine And.intro (fun _ => ?_) (fun hn => absurd c68 hn)
                                            refine H [((1, 1, 0, 0, []), 1), ((1, 2, 0, 0, []), 1), ((13, 5, 132, 0, []), 3), ((0, 0, 0, 1, []), 1), ((12, 0, 133, 0, []), 3), ((27, 0, 0, 0, []), 1)] 123 _ _ _ (by decide +kernel) ?_
                                            rcases px_ite h with ⟨c69, h⟩ | ⟨c69, h⟩
                                            · refine And.intro (fun _ => ?_) (fun hn => absurd c69 hn)
                                              refine H [((0, 0, 0, 0, []), 1), ((27, 0, 0, 0, []), 1)] 132 _ _ _ (by decide +kernel) ?_
                                              exact Prod.mk.inj (Option.some.inj h)
                                            · refine And.intro (fun hp => absurd hp c69) (fun _ => ?_)
                                              exact Prod.mk.inj (Option.some.inj h)
                                          · refine And.intro (fun hp => absurd hp c68) (fun _ => ?_)
                                            refine H [((1, 2, 0, 0, []), 1), ((14, 1, 165, 0, []), 3), ((0, 0, 0, 0, []), 1), ((12, 0, 168, 0, []), 3), ((27, 0, 0, 0, []), 1)] 157 _ _ _ (by decide +kernel) ?_
                                            rcases px_ite h with ⟨c70, h⟩ | ⟨c70, h⟩
                                            · refine And.intro (fun hp => absurd c70 hp) (fun _ => ?_)
                                              exact Prod.mk.inj (Option.some.inj h)
                                            · refine And.intro (fun _ => ?_) (fun hn => absurd c70 hn)
                                              refine H [((1, 1, 0, 0, []), 1), ((1, 2, 0, 0, []), 1), ((7, 1, 0, 0, []), 1), ((27, 0, 0, 0, []), 1)] 165 _ _ _ (by decide +kernel) ?_
                                              obtain ⟨g72, h⟩ := px_gd h
                                              refine And.intro g72 (fun r71 hr71 => ?_)
                                              replace hr71 : r71 = pRem a1 a2 := hr71.trans (px_dr_1 _ _)
                                              try rw [← hr71] at h
                                              exact Prod.mk.inj (Option.some.inj h)
theorem ok_Law_joined {l : Launch} {a0 a1 a2 : Int} {σ : pS} {v : Int} {σ1 : pS} (h : f_Law_joined a0 a1 a2 σ = some (v, σ1)) : Con l 0 90 [.inl a0, .inl a1, .inl a2] σ v σ1 := Con_mk 3 3 rfl (by decide +kernel) (fun _ H => ok_Law_joined_w H _ _ _ _ h)
