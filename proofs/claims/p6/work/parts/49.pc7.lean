def VR (r : O8) : Prop := (0 ≤ r.1 ∧ r.1 ≤ 3) ∧ (0 ≤ r.2.2.2.1 ∧ r.2.2.2.1 ≤ 7) ∧ ((r.1 = 1 ∧ (0 ≤ r.2.2.2.2.1 ∧ r.2.2.2.2.1 ≤ 7) ∧ (0 ≤ r.2.2.2.2.2.1 ∧ r.2.2.2.2.2.1 ≤ 7)) ∨ (r.1 ≠ 1 ∧ r.2.2.2.2.1 = -1 ∧ r.2.2.2.2.2.1 = -1)) ∧ ((2 ≤ r.1 ∧ (r.2.2.1 = 1 ∨ r.2.2.1 = 2 ∨ r.2.2.1 = 4) ∧ (-1 ≤ r.2.2.2.2.2.2.1 ∧ r.2.2.2.2.2.2.1 ≤ 7)) ∨ (r.1 < 2 ∧ r.2.2.1 = 0 ∧ r.2.2.2.2.2.2.1 = -1)) ∧ (0 ≤ r.2.2.2.2.2.2.2 ∧ r.2.2.2.2.2.2.2 ≤ 9999) ∧ (r.1 = 1 → r.2.2.2.2.2.2.2 = 0) ∧ r.1 = ko r.2.1
section SV
variable {T : Nat → Int} {n : Int}
theorem sReg_i {p : Int} {q : Int × Int} (h : sReg T n p = .inl q) : 0 ≤ q.1 ∧ q.1 ≤ 7 ∧ q.2 = p + 1 := by
  unfold sReg at h
  split at h
  · cases h
    exact ⟨by dsimp only; omega, by dsimp only; omega, rfl⟩
  · cases h
theorem sReg_f {p f : Int} (h : sReg T n p = .inr f) : f = -1000 * 1 - p := by
  unfold sReg at h
  split at h
  · cases h
  · cases h
    rfl
theorem sTak_i {c p q : Int} (h : sTak T n c p = .inl q) : q = p + 1 := by
  unfold sTak at h
  split at h
  · cases h
    rfl
  · cases h
theorem sTak_f {c p f : Int} (h : sTak T n c p = .inr f) : f = -1000 * 1 - p := by
  unfold sTak at h
  split at h
  · cases h
  · cases h
    rfl
theorem nm_f2 : ∀ (r : Nat) (v p f : Int), nm T n r v p = .inr f → f ≤ -1000 * 2 - p
  | 0, v, p, f, h => by
    unfold nm at h
    split at h
    · cases h; exact Int.le_refl _
    · cases h
  | r + 1, v, p, f, h => by
    unfold nm at h
    split at h
    · have := nm_f2 r _ _ f h; omega
    · cases h
theorem nm_v {m : Nat} : ∀ (r : Nat) (v p : Int) (q : Int × Int), 0 ≤ v → (v + 1) * p10 r ≤ p10 m → nm T n r v p = .inl q → 0 ≤ q.1 ∧ q.1 + 1 ≤ p10 m
  | 0, v, p, q, h0, hb, h => by
    unfold nm at h
    split at h
    · cases h
    · cases h; exact ⟨h0, p10_le h0 hb⟩
  | r + 1, v, p, q, h0, hb, h => by
    unfold nm at h
    split at h
    · exact nm_v r _ _ q (by omega) (p10_st (by omega) hb) h
    · cases h; exact ⟨h0, p10_le h0 hb⟩
theorem sNum_f {m : Nat} {p f : Int} (h : sNum T n m p = .inr f) : f ≤ -1000 * 1 - p := by
  unfold sNum at h
  split at h
  · have := nm_f2 _ _ _ f h; omega
  · cases h; exact Int.le_refl _
theorem sNum_v {m : Nat} {p : Int} {q : Int × Int} (h : sNum T n m p = .inl q) : 0 ≤ q.1 ∧ q.1 + 1 ≤ p10 m := by
  unfold sNum at h
  split at h
  · exact nm_v m 0 p q (Int.le_refl _) (by rw [Int.zero_add, Int.one_mul]; exact Int.le_refl _) h
  · cases h
theorem sGiv_i {p : Int} {q : Int × Int} (h : sGiv T n p = .inl q) : 0 ≤ q.1 ∧ q.1 ≤ 7 ∧ q.2 = p + 1 + 1 := by
  unfold sGiv at h
  split at h
  · cases h
  · rename_i u hu
    split at h
    · cases h
    · rename_i v hv
      cases h
      have := sReg_i hu
      have := sTak_i hv
      dsimp only
      omega
theorem sGiv_f {p f : Int} (h : sGiv T n p = .inr f) : f ≤ -1000 * 1 - p := by
  unfold sGiv at h
  split at h
  · rename_i g hg
    cases h
    have := sReg_f hg
    omega
  · rename_i u hu
    split at h
    · rename_i g hg
      cases h
      have := sReg_i hu
      have := sTak_f hg
      omega
    · cases h
theorem sPlN_i {b p : Int} {q : (Int × Int) × Int} (h : sPlN T n b p = .inl q) : q.1.1 = b ∧ 0 ≤ q.1.2 ∧ q.1.2 ≤ 9999 ∧ p < q.2 := by
  unfold sPlN at h
  split at h
  · cases h
  · rename_i u hu
    cases h
    have h1 := sNum_v hu
    have h2 := sNum_gt (by decide) hu
    have e4 : p10 4 = 10000 := by decide
    dsimp only
    omega
theorem sPlN_f {b p f : Int} (h : sPlN T n b p = .inr f) : f ≤ -1000 * 1 - p := by
  unfold sPlN at h
  split at h
  · rename_i g hg
    cases h
    exact sNum_f hg
  · cases h
theorem sPlc_i {p : Int} {q : (Int × Int) × Int} (h : sPlc T n p = .inl q) : (-1 ≤ q.1.1 ∧ q.1.1 ≤ 7) ∧ 0 ≤ q.1.2 ∧ q.1.2 ≤ 9999 ∧ p < q.2 := by
  unfold sPlc at h
  split at h
  · split at h
    · cases h
    · rename_i u hu
      split at h
      · cases h
      · rename_i v hv
        have h1 := sPlN_i h
        have h2 := sReg_i hu
        have h3 := sTak_i hv
        omega
  · have h1 := sPlN_i h
    omega
theorem sPlc_f {p f : Int} (h : sPlc T n p = .inr f) : f ≤ -1000 * 1 - p := by
  unfold sPlc at h
  split at h
  · split at h
    · rename_i g hg
      cases h
      have := sReg_f hg
      omega
    · rename_i u hu
      split at h
      · rename_i g hg
        cases h
        have := sReg_i hu
        have := sTak_f hg
        omega
      · rename_i v hv
        have h1 := sPlN_f h
        have h2 := sReg_i hu
        have h3 := sTak_i hv
        omega
  · have h1 := sPlN_f h
    omega
theorem so_v {c : Int} (h : so c ≠ 0) : so c = 1 ∨ so c = 2 ∨ so c = 4 := by
  unfold so at h ⊢
  repeat' split
  all_goals first | omega | (exfalso; simp_all)
theorem sMov_i {p : Int} {q : (Int × Int × Int × Int) × Int} (h : sMov T n p = .inl q) : (q.1.1 = 1 ∨ q.1.1 = 2 ∨ q.1.1 = 4) ∧ (0 ≤ q.1.2.1 ∧ q.1.2.1 ≤ 7) ∧ (-1 ≤ q.1.2.2.1 ∧ q.1.2.2.1 ≤ 7) ∧ (0 ≤ q.1.2.2.2 ∧ q.1.2.2.2 ≤ 9999) ∧ p < q.2 := by
  unfold sMov at h
  split at h
  · cases h
  · rename_i hz
    split at h
    · cases h
    · rename_i u hu
      split at h
      · cases h
      · rename_i v hv
        cases h
        have h1 := sGiv_i hu
        have h2 := sPlc_i hv
        have h3 := so_v hz
        dsimp only
        omega
theorem sMov_f {p f : Int} (h : sMov T n p = .inr f) : f ≤ -1000 * 1 - p := by
  unfold sMov at h
  split at h
  · cases h; exact Int.le_refl _
  · split at h
    · rename_i g hg
      cases h
      have := sGiv_f hg
      omega
    · rename_i u hu
      split at h
      · rename_i g hg
        cases h
        have := sGiv_i hu
        have := sPlc_f hg
        omega
      · cases h
theorem sOp_f {p f : Int} (h : sOp T n p = .inr f) : f ≤ -1000 * 1 - p := by
  unfold sOp at h
  split at h
  · cases h; exact Int.le_refl _
  · split at h
    · unfold sOp0 at h
      split at h
      · rename_i g hg
        cases h
        have := sGiv_f hg
        omega
      · rename_i u hu
        split at h
        · rename_i g hg
          cases h
          have := sGiv_i hu
          have := sNum_f hg
          omega
        · cases h
    · split at h
      · unfold sOp1 at h
        split at h
        · rename_i g hg
          cases h
          have := sGiv_f hg
          omega
        · rename_i u hu
          have a1 := sGiv_i hu
          split at h
          · rename_i g hg
            cases h
            have := sReg_f hg
            omega
          · rename_i v hv
            have a2 := sReg_i hv
            split at h
            · rename_i g hg
              cases h
              have := sTak_f hg
              omega
            · rename_i w hw
              have a3 := sTak_i hw
              split at h
              · rename_i g hg
                cases h
                have := sReg_f hg
                omega
              · cases h
      · unfold sOp2 at h
        split at h
        · rename_i g hg
          cases h
          have := sMov_f hg
          omega
        · cases h
theorem sOp_i {p : Int} {q : O8 × Int} (h : sOp T n p = .inl q) : VR q.1 ∧ p < q.2 := by
  have hkr := ko_r (hd T n p)
  unfold sOp at h
  split at h
  · cases h
  · rename_i hk
    split at h
    · rename_i hk0
      unfold sOp0 at h
      split at h
      · cases h
      · rename_i u hu
        split at h
        · cases h
        · rename_i w hw
          cases h
          have a1 := sGiv_i hu
          have a2 := sNum_v hw
          have a3 := sNum_gt (by decide) hw
          have e4 : p10 4 = 10000 := by decide
          unfold VR
          dsimp only
          exact ⟨⟨⟨by omega, by omega⟩, ⟨by omega, by omega⟩, Or.inr ⟨by omega, rfl, rfl⟩, Or.inr ⟨by omega, rfl, rfl⟩, ⟨by omega, by omega⟩, fun h => by omega, hk0.symm⟩, by omega⟩
    · split at h
      · rename_i hk1
        unfold sOp1 at h
        split at h
        · cases h
        · rename_i u hu
          have a1 := sGiv_i hu
          split at h
          · cases h
          · rename_i v hv
            have a2 := sReg_i hv
            split at h
            · cases h
            · rename_i w hw
              have a3 := sTak_i hw
              split at h
              · cases h
              · rename_i x hx
                have a4 := sReg_i hx
                cases h
                unfold VR
                dsimp only
                exact ⟨⟨⟨by omega, by omega⟩, ⟨by omega, by omega⟩, Or.inl ⟨rfl, ⟨by omega, by omega⟩, ⟨by omega, by omega⟩⟩, Or.inr ⟨by omega, rfl, rfl⟩, ⟨by omega, by omega⟩, fun _ => rfl, hk1.symm⟩, by omega⟩
      · rename_i hk0 hk1
        unfold sOp2 at h
        split at h
        · cases h
        · rename_i w hw
          have a1 := sMov_i hw
          cases h
          unfold VR
          dsimp only
          exact ⟨⟨⟨by omega, by omega⟩, a1.2.1, Or.inr ⟨hk1, rfl, rfl⟩, Or.inl ⟨by omega, a1.1, a1.2.2.1⟩, a1.2.2.2.1, fun h => absurd h hk1, rfl⟩, by omega⟩
end SV
