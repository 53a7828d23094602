/-- the places of cell j from i on to n hold v -/
def pFl (σ : pS) (j n i : Nat) (v : Int) : pS := fun k x => if k = j ∧ i ≤ x ∧ x < n then v else σ k x
theorem pFl_end (σ : pS) (j n : Nat) (v : Int) : pFl σ j n n v = σ := by
  funext k x
  exact if_neg (by omega)
theorem pFl_st (σ : pS) (j n i : Nat) (v : Int) (h : i < n) : pFl (pU σ j i v) j n (i + 1) v = pFl σ j n i v := by
  funext k x
  unfold pFl pU
  by_cases hk : k = j
  · by_cases hx : x = i
    · rw [if_neg (by omega), if_pos ⟨hk, hx⟩, if_pos (by omega)]
    · by_cases h2 : i ≤ x ∧ x < n
      · rw [if_pos (by omega), if_pos ⟨hk, h2⟩]
      · rw [if_neg (by omega), if_neg (by omega), if_neg (by omega)]
  · rw [if_neg (by omega), if_neg (by omega), if_neg (by omega)]
theorem fl_55 (v : Int) : ∀ (d i fu : Nat) (σ : pS), i + d = 8 → d < fu → f_Arrays_fill_55_p5 fu v (i : Int) 8 σ = some (0, pFl σ 55 8 i v)
  | 0, i, fu, σ, h, hf => by
    obtain ⟨fu, rfl⟩ : ∃ k, fu = k + 1 := ⟨fu - 1, by omega⟩
    obtain rfl : i = 8 := by omega
    unfold f_Arrays_fill_55_p5
    rw [if_pos (by omega), pFl_end]
  | d + 1, i, fu, σ, h, hf => by
    obtain ⟨fu, rfl⟩ : ∃ k, fu = k + 1 := ⟨fu - 1, by omega⟩
    unfold f_Arrays_fill_55_p5
    rw [if_neg (by omega), if_pos (by omega), pw_id (by omega) (by omega), show ((i : Int) + 1) = ((i + 1 : Nat) : Int) by omega, fl_55 v d (i + 1) fu _ (by omega) (by omega), Int.toNat_natCast, pFl_st _ _ _ _ _ (by omega)]
theorem fill_55 (v : Int) (σ : pS) : f_Arrays_fill_55 v σ = some (0, pFl σ 55 8 0 v) := fl_55 v 8 0 4096 σ (by omega) (by omega)
theorem fl_27 (v : Int) : ∀ (d i fu : Nat) (σ : pS), i + d = 20 → d < fu → f_Arrays_fill_27_p5 fu v (i : Int) 20 σ = some (0, pFl σ 27 20 i v)
  | 0, i, fu, σ, h, hf => by
    obtain ⟨fu, rfl⟩ : ∃ k, fu = k + 1 := ⟨fu - 1, by omega⟩
    obtain rfl : i = 20 := by omega
    unfold f_Arrays_fill_27_p5
    rw [if_pos (by omega), pFl_end]
  | d + 1, i, fu, σ, h, hf => by
    obtain ⟨fu, rfl⟩ : ∃ k, fu = k + 1 := ⟨fu - 1, by omega⟩
    unfold f_Arrays_fill_27_p5
    rw [if_neg (by omega), if_pos (by omega), pw_id (by omega) (by omega), show ((i : Int) + 1) = ((i + 1 : Nat) : Int) by omega, fl_27 v d (i + 1) fu _ (by omega) (by omega), Int.toNat_natCast, pFl_st _ _ _ _ _ (by omega)]
theorem fill_27 (v : Int) (σ : pS) : f_Arrays_fill_27 v σ = some (0, pFl σ 27 20 0 v) := fl_27 v 20 0 4096 σ (by omega) (by omega)
theorem fl_83 (v : Int) : ∀ (d i fu : Nat) (σ : pS), i + d = 2 → d < fu → f_Arrays_fill_83_p5 fu v (i : Int) 2 σ = some (0, pFl σ 83 2 i v)
  | 0, i, fu, σ, h, hf => by
    obtain ⟨fu, rfl⟩ : ∃ k, fu = k + 1 := ⟨fu - 1, by omega⟩
    obtain rfl : i = 2 := by omega
    unfold f_Arrays_fill_83_p5
    rw [if_pos (by omega), pFl_end]
  | d + 1, i, fu, σ, h, hf => by
    obtain ⟨fu, rfl⟩ : ∃ k, fu = k + 1 := ⟨fu - 1, by omega⟩
    unfold f_Arrays_fill_83_p5
    rw [if_neg (by omega), if_pos (by omega), pw_id (by omega) (by omega), show ((i : Int) + 1) = ((i + 1 : Nat) : Int) by omega, fl_83 v d (i + 1) fu _ (by omega) (by omega), Int.toNat_natCast, pFl_st _ _ _ _ _ (by omega)]
theorem fill_83 (v : Int) (σ : pS) : f_Arrays_fill_83 v σ = some (0, pFl σ 83 2 0 v) := fl_83 v 2 0 4096 σ (by omega) (by omega)
/-- the last one below i that gives r -/
def gv (g : Nat → Int) : Nat → Int → Int
  | 0, _ => -1
  | i + 1, r => if g i = r then (i : Int) else gv g i r
theorem gv_r (g : Nat → Int) (r : Int) : ∀ i : Nat, -1 ≤ gv g i r ∧ gv g i r < i
  | 0 => by unfold gv; omega
  | i + 1 => by
    have := gv_r g r i
    unfold gv
    split <;> omega
def src (g : Nat → Int) (i : Nat) (r : Int) : Int := if 0 ≤ r ∧ r < 8 then gv g i r else -1
theorem src_r (g : Nat → Int) (i : Nat) (r : Int) : -1 ≤ src g i r ∧ src g i r < i := by
  unfold src
  split
  · exact gv_r g r i
  · omega
def dz (D : Nat → Int) (s : Int) : Int := if s < 0 then 0 else D s.toNat
theorem x_isCell {a : Int} {σ : pS} : f_X_isCell a σ = some (if 0 ≤ a ∧ a < 8 then 1 else 0, σ) := by
  unfold f_X_isCell
  by_cases h1 : a < 0
  · rw [if_pos h1, if_neg (by omega)]
  · by_cases h2 : 8 ≤ a
    · rw [if_neg h1, if_pos h2, if_neg (by omega)]
    · rw [if_neg h1, if_neg h2, if_pos (by omega)]
theorem c_gor {a : Int} {σ : pS} : f_Prog_giverOfRegister_45 a σ = some (if 0 ≤ a ∧ a < 8 then σ 55 a.toNat else -1, σ) := by
  unfold f_Prog_giverOfRegister_45
  rw [x_isCell, Option.bind_some]
  dsimp only
  by_cases h : 0 ≤ a ∧ a < 8
  · rw [if_pos h, if_neg (by decide), if_pos h, if_pos h]
  · rw [if_neg h, if_pos rfl, if_neg h]
theorem c_dof {a : Int} {σ : pS} (ha : a < 20) : f_Prog_depthOf_45 a σ = some (dz (σ 56) a, σ) := by
  unfold f_Prog_depthOf_45 dz
  by_cases h : a < 0
  · rw [if_pos h, if_pos h]
  · rw [if_neg h, if_neg h, if_neg (by omega), if_pos (by omega)]
def FS (g F S : Nat → Int) (σ : pS) (i : Nat) : Prop :=
  (∀ j, j < 20 → σ 49 j = g j ∧ σ 50 j = F j ∧ σ 51 j = S j) ∧ (∀ r : Nat, r < 8 → σ 55 r = gv g i r) ∧
  (∀ j, j < i → σ 53 j = src g j (F j) ∧ σ 54 j = src g j (S j) ∧ (1 ≤ σ 56 j ∧ σ 56 j ≤ (j : Int) + 1) ∧ σ 56 j = 1 + pMax (dz (σ 56) (src g j (F j))) (dz (σ 56) (src g j (S j)))) ∧
  (0 ≤ σ 45 12 ∧ (∀ j, j < i → σ 56 j ≤ σ 45 12) ∧ (i = 0 → σ 45 12 = 0) ∧ (0 < i → ∃ j, j < i ∧ σ 45 12 = σ 56 j))
def Ps (k x : Nat) : Prop := k = 53 ∨ k = 54 ∨ k = 55 ∨ k = 56 ∨ (k = 45 ∧ x = 12)
theorem c_fs {g F S : Nat → Int} {m : Nat} (hm : m ≤ 20) (hg : ∀ j, j < m → -1 ≤ g j ∧ g j ≤ 7) : ∀ (d i fu : Nat) (σ : pS), i + d = m → d < fu → σ 45 11 = (m : Int) → FS g F S σ i → ∃ σ', f_Prog_findSources_45_p15 fu (i : Int) σ = some (0, σ') ∧ FS g F S σ' m ∧ FR Ps σ σ'
  | 0, i, fu, σ, hd, hf, h11, hF => by
    obtain ⟨fu, rfl⟩ : ∃ k, fu = k + 1 := ⟨fu - 1, by omega⟩
    obtain rfl : i = m := by omega
    refine ⟨σ, ?_, hF, FR.rf _ _⟩
    unfold f_Prog_findSources_45_p15
    rw [if_pos (by omega)]
  | d + 1, i, fu, σ, hd, hf, h11, hF => by
    obtain ⟨fu, rfl⟩ : ∃ k, fu = k + 1 := ⟨fu - 1, by omega⟩
    have hF0 := hF
    obtain ⟨f1, f2, f3, f4, f5, f6, f7⟩ := hF
    have hi : 0 ≤ (i : Int) ∧ (i : Int) < 20 := by omega
    obtain ⟨g1, g2, g3⟩ := f1 i (by omega)
    have hgi := hg i (by omega)
    have s1 := src_r g i (F i)
    have s2 := src_r g i (S i)
    have e1 : ∀ r : Int, (if 0 ≤ r ∧ r < 8 then σ 55 r.toNat else -1) = src g i r := by
      intro r
      unfold src
      by_cases hr : 0 ≤ r ∧ r < 8
      · rw [if_pos hr, if_pos hr, f2 r.toNat (by omega), Int.toNat_of_nonneg hr.1]
      · rw [if_neg hr, if_neg hr]
    have hdz : ∀ (s : Int), s < i → 0 ≤ dz (σ 56) s ∧ dz (σ 56) s ≤ i := by
      intro s hs
      unfold dz
      by_cases h0 : s < 0
      · rw [if_pos h0]; omega
      · rw [if_neg h0]
        have := (f3 s.toNat (by omega)).2.2.1
        omega
    have z1 := hdz _ s1.2
    have z2 := hdz _ s2.2
    generalize hA : src g i (F i) = A at *
    generalize hB : src g i (S i) = B at *
    have hmx : pMax (dz (σ 56) A) (dz (σ 56) B) ≤ i ∧ 0 ≤ pMax (dz (σ 56) A) (dz (σ 56) B) := by
      unfold pMax
      split <;> omega
    generalize hσ1 : pU (pU (pU (pU σ 53 i A) 54 i B) 56 i (1 + pMax (dz (σ 56) A) (dz (σ 56) B))) 45 12 (pMax (σ 45 12) (1 + pMax (dz (σ 56) A) (dz (σ 56) B))) = σ1
    have st : f_Prog_findSources_45_p15 (fu + 1) (i : Int) σ = if 0 ≤ g i ∧ g i < 8 then f_Prog_findSources_45_p15 fu ((i + 1 : Nat) : Int) (pU σ1 55 (g i).toNat (i : Int)) else f_Prog_findSources_45_p15 fu ((i + 1 : Nat) : Int) σ1 := by
      rw [f_Prog_findSources_45_p15]
      rw [if_neg (by omega), if_neg (by omega), if_pos hi, c_gor, Option.bind_some, if_pos hi, if_pos hi]
      dsimp only
      rw [Int.toNat_natCast, g2, e1, hA, c_gor, Option.bind_some, if_pos hi, if_pos hi]
      dsimp only
      rw [g3, pU_c _ _ _ _ (show 55 ≠ 53 by decide), e1, hB, pU_s, c_dof (by omega), Option.bind_some, if_pos hi]
      dsimp only
      rw [pU_s, c_dof (by omega), Option.bind_some, if_pos hi, if_pos hi, if_pos hi]
      dsimp only
      have ez : ∀ s, dz ((pU (pU σ 53 i A) 54 i B) 56) s = dz (σ 56) s := fun s => by
        unfold dz
        rw [pU_c _ _ _ _ (show 56 ≠ 54 by decide), pU_c _ _ _ _ (show 56 ≠ 53 by decide)]
      rw [ez, ez, pw_id (by omega) (by omega), pU_s, pU_c _ _ _ _ (show 45 ≠ 54 by decide), pU_c _ _ _ _ (show 45 ≠ 53 by decide), pU_c _ _ _ _ (show 49 ≠ 54 by decide), pU_c _ _ _ _ (show 49 ≠ 53 by decide), g1, hσ1, x_isCell, Option.bind_some]
      dsimp only
      have e49 : σ1 49 i = g i := by rw [← hσ1]; simp [pU, g1]
      rw [pw_id (by omega) (by omega), show ((i : Int) + 1) = ((i + 1 : Nat) : Int) by omega]
      by_cases hc : 0 ≤ g i ∧ g i < 8
      · rw [if_pos hc, if_pos hc, if_neg (by decide), if_pos hi, if_pos (show 0 ≤ σ1 49 i ∧ σ1 49 i < 8 by rw [e49]; exact hc), e49]
      · rw [if_neg hc, if_neg hc, if_pos rfl]
    -- the new state
    have q56 : ∀ j, σ1 56 j = if j = i then 1 + pMax (dz (σ 56) A) (dz (σ 56) B) else σ 56 j := by
      intro j
      rw [← hσ1, pU_c _ _ _ _ (show 56 ≠ 45 by decide)]
      by_cases hj : j = i
      · rw [if_pos hj, hj, pU_s]
      · rw [if_neg hj, pU_i _ _ _ _ hj, pU_c _ _ _ _ (show 56 ≠ 54 by decide), pU_c _ _ _ _ (show 56 ≠ 53 by decide)]
    have q12 : σ1 45 12 = pMax (σ 45 12) (1 + pMax (dz (σ 56) A) (dz (σ 56) B)) := by rw [← hσ1]; exact pU_s _ _ _ _
    have qn : ∀ k x, k ≠ 53 → k ≠ 54 → k ≠ 56 → ¬ (k = 45 ∧ x = 12) → σ1 k x = σ k x := by
      intro k x h1 h2 h3 h4
      rw [← hσ1]
      rw [show pU (pU (pU (pU σ 53 i A) 54 i B) 56 i (1 + pMax (dz (σ 56) A) (dz (σ 56) B))) 45 12 (pMax (σ 45 12) (1 + pMax (dz (σ 56) A) (dz (σ 56) B))) k x = pU (pU (pU σ 53 i A) 54 i B) 56 i (1 + pMax (dz (σ 56) A) (dz (σ 56) B)) k x from if_neg h4, pU_c _ _ _ _ h3, pU_c _ _ _ _ h2, pU_c _ _ _ _ h1]
    have q53 : ∀ j, σ1 53 j = if j = i then A else σ 53 j := by
      intro j
      rw [← hσ1, pU_c _ _ _ _ (show 53 ≠ 45 by decide), pU_c _ _ _ _ (show 53 ≠ 56 by decide), pU_c _ _ _ _ (show 53 ≠ 54 by decide)]
      by_cases hj : j = i
      · rw [if_pos hj, hj, pU_s]
      · rw [if_neg hj, pU_i _ _ _ _ hj]
    have q54 : ∀ j, σ1 54 j = if j = i then B else σ 54 j := by
      intro j
      rw [← hσ1, pU_c _ _ _ _ (show 54 ≠ 45 by decide), pU_c _ _ _ _ (show 54 ≠ 56 by decide)]
      by_cases hj : j = i
      · rw [if_pos hj, hj, pU_s]
      · rw [if_neg hj, pU_i _ _ _ _ hj, pU_c _ _ _ _ (show 54 ≠ 53 by decide)]
    have edz : ∀ s : Int, s < i → dz (σ1 56) s = dz (σ 56) s := by
      intro s hs
      unfold dz
      by_cases h0 : s < 0
      · rw [if_pos h0, if_pos h0]
      · rw [if_neg h0, if_neg h0, q56, if_neg (by omega)]
    have hFr1 : FR Ps σ σ1 := fun k x => by
      by_cases h1 : k = 53 ∨ k = 54 ∨ k = 56 ∨ (k = 45 ∧ x = 12)
      · exact Or.inl (by unfold Ps; omega)
      · exact Or.inr (qn k x (by omega) (by omega) (by omega) (by omega))
    have hmain : ∀ σ2 : pS, (∀ k x, k ≠ 55 → σ2 k x = σ1 k x) → (∀ r : Nat, r < 8 → σ2 55 r = gv g (i + 1) r) → FS g F S σ2 (i + 1) := by
      intro σ2 hs hgv
      have e56 : σ2 56 = σ1 56 := funext (fun x => hs 56 x (by decide))
      refine ⟨fun j hj => ?_, hgv, fun j hj => ?_, ?_⟩
      · rw [hs _ _ (by decide), hs _ _ (by decide), hs _ _ (by decide), qn _ _ (by decide) (by decide) (by decide) (by omega), qn _ _ (by decide) (by decide) (by decide) (by omega), qn _ _ (by decide) (by decide) (by decide) (by omega)]
        exact f1 j hj
      · rw [hs _ _ (by decide), hs _ _ (by decide), e56, q53, q54]
        by_cases hji : j = i
        · subst hji
          rw [if_pos rfl, if_pos rfl, hA, hB, edz _ s1.2, edz _ s2.2, q56, if_pos rfl]
          exact ⟨rfl, rfl, ⟨by omega, by omega⟩, rfl⟩
        · have hj' : j < i := by omega
          obtain ⟨a1, a2, a3, a4⟩ := f3 j hj'
          have b1 := src_r g j (F j)
          have b2 := src_r g j (S j)
          rw [if_neg hji, if_neg hji, edz _ (by omega), edz _ (by omega), q56, if_neg hji]
          exact ⟨a1, a2, a3, a4⟩
      · rw [hs _ _ (by decide), e56, q12]
        have hmx2 : σ 45 12 ≤ pMax (σ 45 12) (1 + pMax (dz (σ 56) A) (dz (σ 56) B)) ∧ 1 + pMax (dz (σ 56) A) (dz (σ 56) B) ≤ pMax (σ 45 12) (1 + pMax (dz (σ 56) A) (dz (σ 56) B)) ∧ (pMax (σ 45 12) (1 + pMax (dz (σ 56) A) (dz (σ 56) B)) = σ 45 12 ∨ pMax (σ 45 12) (1 + pMax (dz (σ 56) A) (dz (σ 56) B)) = 1 + pMax (dz (σ 56) A) (dz (σ 56) B)) := by
          generalize 1 + pMax (dz (σ 56) A) (dz (σ 56) B) = z
          unfold pMax
          split <;> omega
        refine ⟨by omega, fun j hj => ?_, fun h => absurd h (by omega), fun _ => ?_⟩
        · rw [q56]
          by_cases hji : j = i
          · rw [if_pos hji]; omega
          · rw [if_neg hji]
            have := f5 j (by omega)
            omega
        · rcases hmx2.2.2 with h | h
          · by_cases hi0 : i = 0
            · exact ⟨i, by omega, by rw [q56, if_pos rfl]; have := f6 hi0; omega⟩
            · obtain ⟨j, hj, e⟩ := f7 (by omega)
              exact ⟨j, by omega, by rw [q56, if_neg (by omega)]; omega⟩
          · exact ⟨i, by omega, by rw [q56, if_pos rfl]; exact h⟩
    rw [st]
    by_cases hc : 0 ≤ g i ∧ g i < 8
    · rw [if_pos hc]
      have hFS := hmain (pU σ1 55 (g i).toNat (i : Int)) (fun k x h => pU_c _ _ _ _ h) (fun r hr => by
        unfold gv
        by_cases h : g i = r
        · rw [if_pos h, show r = (g i).toNat by omega]
          exact pU_s _ _ _ _
        · rw [if_neg h, pU_i _ _ _ _ (by omega), qn _ _ (by decide) (by decide) (by decide) (by omega)]
          exact f2 r hr)
      obtain ⟨σ', a, b, c⟩ := c_fs hm hg d (i + 1) fu _ (by omega) (by omega) (by rw [pU_c _ _ _ _ (by decide), qn _ _ (by decide) (by decide) (by decide) (by omega)]; exact h11) hFS
      exact ⟨σ', a, b, (hFr1.tr (FR.u (Or.inr (Or.inr (Or.inl rfl))))).tr c⟩
    · rw [if_neg hc]
      have hFS := hmain σ1 (fun k x h => rfl) (fun r hr => by
        unfold gv
        rw [if_neg (by omega), qn _ _ (by decide) (by decide) (by decide) (by omega)]
        exact f2 r hr)
      obtain ⟨σ', a, b, c⟩ := c_fs hm hg d (i + 1) fu _ (by omega) (by omega) (by rw [qn _ _ (by decide) (by decide) (by decide) (by omega)]; exact h11) hFS
      exact ⟨σ', a, b, hFr1.tr c⟩
theorem c_find {m : Nat} {σ : pS} (hm : m ≤ 20) (hg : ∀ j, j < m → -1 ≤ σ 49 j ∧ σ 49 j ≤ 7) (h11 : σ 45 11 = (m : Int)) : ∃ σ', f_Prog_findSources_45 σ = some (0, σ') ∧ FS (σ 49) (σ 50) (σ 51) σ' m ∧ FR Ps σ σ' := by
  unfold f_Prog_findSources_45
  rw [fill_55, Option.bind_some]
  dsimp only
  have hn : ∀ k x, k ≠ 55 → ¬ (k = 45 ∧ x = 12) → pU (pFl σ 55 8 0 (-1)) 45 12 0 k x = σ k x := fun k x h1 h2 => (if_neg h2).trans (if_neg (fun h => h1 h.1))
  have hFS : FS (σ 49) (σ 50) (σ 51) (pU (pFl σ 55 8 0 (-1)) 45 12 0) 0 := by
    refine ⟨fun j _ => ⟨hn _ _ (by decide) (by omega), hn _ _ (by decide) (by omega), hn _ _ (by decide) (by omega)⟩, fun r hr => ?_, fun j hj => absurd hj (by omega), by rw [pU_s]; exact Int.le_refl _, fun j hj => absurd hj (by omega), fun _ => pU_s _ _ _ _, fun h => absurd h (by omega)⟩
    rw [pU_c _ _ _ _ (by decide)]
    exact if_pos ⟨rfl, Nat.zero_le _, hr⟩
  obtain ⟨σ', a, b, c⟩ := c_fs hm hg m 0 4096 _ (by omega) (by omega) ((hn _ _ (by decide) (by omega)).trans h11) hFS
  refine ⟨σ', a, b, FR.tr (fun k x => ?_) c⟩
  by_cases h1 : k = 55 ∨ (k = 45 ∧ x = 12)
  · exact Or.inl (by unfold Ps; omega)
  · exact Or.inr (hn k x (by omega) (by omega))
