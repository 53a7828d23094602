/-- the two laws, alike and in order -/
def LW (m : Nat) (c : Cd) (R : Nat → Ru) (σ τ : pS) : Prop := m ≤ 16 ∧ c.length ≤ 240 ∧ σ 16 7 = (m : Int) ∧ τ 84 27 = (m : Int) ∧ CDs c σ τ ∧ ∀ j, j < m → (σ 17 j = (R j).1 ∧ σ 18 j = (R j).2.1 ∧ σ 19 j = (R j).2.2.1 ∧ σ 18 (j + 1) = (R j).2.2.2) ∧ (τ 104 j = (R j).1 ∧ τ 105 j = (R j).2.1 ∧ τ 106 j = (R j).2.2.1 ∧ τ 107 j = (R j).2.2.2) ∧ RW c (R j)
theorem LW.mv {m : Nat} {c : Cd} {R : Nat → Ru} {σ σ' τ τ' : pS} (h : LW m c R σ τ) (h1 : σ' 16 7 = σ 16 7) (h2 : ∀ k x, 17 ≤ k → k ≤ 21 → σ' k x = σ k x) (h3 : τ' 84 27 = τ 84 27) (h4 : ∀ k x, 103 ≤ k → k ≤ 107 → τ' k x = τ k x) : LW m c R σ' τ' := by
  obtain ⟨a1, a2, a3, a4, a5, a6⟩ := h
  refine ⟨a1, a2, h1.trans a3, h3.trans a4, fun i q hq => ?_, fun j hj => ?_⟩
  · rw [h2 20 _ (by decide) (by decide), h2 21 _ (by decide) (by decide), h4 103 _ (by decide) (by decide)]
    exact a5 i q hq
  · rw [h2 17 _ (by decide) (by decide), h2 18 _ (by decide) (by decide), h2 19 _ (by decide) (by decide), h2 18 _ (by decide) (by decide), h4 104 _ (by decide) (by decide), h4 105 _ (by decide) (by decide), h4 106 _ (by decide) (by decide), h4 107 _ (by decide) (by decide)]
    exact a6 j hj
theorem LW.sk {m : Nat} {c : Cd} {R : Nat → Ru} {σ σ' τ τ' : pS} (h : LW m c R σ τ) (h1 : FR P23 σ σ') (h2 : FR Q108 τ τ') : LW m c R σ' τ' := h.mv (h1.get (by unfold P23; omega)) (fun k x _ _ => h1.get (by unfold P23; omega)) (h2.get (by unfold Q108; omega)) (fun k x _ _ => h2.get (by unfold Q108; omega))
/-- a rule's condition -/
theorem hs_ls {m : Nat} {c : Cd} {R : Nat → Ru} {σ τ : pS} (h : LW m c R σ τ) (hF : FCs σ τ) {j : Nat} (hj : j < m) : ∃ b v σ' τ', f_Law_holds_16 (j : Int) σ = some (b, σ') ∧ f_M_reckonsTo_84 (τ 106 j) (τ 107 j) τ = some (v, τ') ∧ ((b = 0 ∧ v ≠ 1) ∨ (b = 1 ∧ v = 1)) ∧ FR P23 σ σ' ∧ FR Q108 τ τ' := by
  have hm := h.1
  have hj16 : j < 16 := by omega
  have g : (0 : Int) ≤ (j : Int) ∧ (j : Int) < 16 := by omega
  have g17 : (0 : Int) ≤ ((j + 1 : Nat) : Int) ∧ ((j + 1 : Nat) : Int) < 17 := by omega
  obtain ⟨a1, a2, a3, a4, a5, a6⟩ := h
  obtain ⟨⟨b1, b2, b3, b4⟩, ⟨c1, c2, c3, c4⟩, x, y, z, e1, e2, e3, l1, l2, l3, -, K, w1, w2, w3⟩ := a6 j hj
  obtain ⟨v, σ', τ', r1, r2, r3, r4, r5⟩ := rk_ls a2 l3 l2 w1 w2 (Or.inl w3) a5 hF
  have eX : f_Law_holds_16 (j : Int) σ = (if v = 0 then some (0, σ') else some (1, σ')) := by
    unfold f_Law_holds_16
    rw [pw_s hj16 (by decide), if_pos g, if_pos g17, Int.toNat_natCast, Int.toNat_natCast, b3, b4, e2, e3, r1, Option.bind_some]
  have eM : f_M_reckonsTo_84 (τ 106 j) (τ 107 j) τ = some (v, τ') := by rw [c3, c4, e2, e3]; exact r2
  rcases r5 w3 with q | q
  · exact ⟨0, v, σ', τ', by rw [eX, if_pos q], eM, Or.inl ⟨rfl, by rw [q]; decide⟩, r3, r4⟩
  · exact ⟨1, v, σ', τ', by rw [eX, if_neg (by rw [q]; decide)], eM, Or.inr ⟨rfl, q⟩, r3, r4⟩
theorem mm_eq (w : Int) (τ' : pS) : (if 1 ≤ w then (if w ≤ 20 then (some (w, τ')) else (some (20, τ'))) else (some (1, τ')) : Option (Int × pS)) = some (pMax 1 (pMin 20 w), τ') := by
  have h : (if 1 ≤ w then (if w ≤ 20 then w else 20) else 1) = pMax 1 (pMin 20 w) := by
    unfold pMax pMin
    (repeat' split) <;> omega
  rw [← h]
  (repeat' split) <;> rfl
/-- how long an op takes: the same in both -/
theorem dl_lp {m : Nat} {c : Cd} {R : Nat → Ru} {i : Nat} (hi : i < 20) {u : Int} : ∀ (d j fu1 fu2 : Nat) (σ τ : pS), j + d = m → d < fu1 → d < fu2 → LW m c R σ τ → FCs σ τ → u = (if τ 88 i = 2 then 2 else 1) → ∃ v σ' τ', f_Law_delay_16_p2 fu1 u (j : Int) σ = some (v, σ') ∧ f_M_delayOf_84_p2 fu2 (i : Int) (j : Int) τ = some (v, τ') ∧ FR P23 σ σ' ∧ FR Q108 τ τ'
  | 0, j, fu1, fu2, σ, τ, hj, h1, h2, h, hF, hu => by
    obtain ⟨n1, rfl⟩ : ∃ n, fu1 = n + 1 := ⟨fu1 - 1, by omega⟩
    obtain ⟨n2, rfl⟩ : ∃ n, fu2 = n + 1 := ⟨fu2 - 1, by omega⟩
    have a3 := h.2.2.1
    have a4 := h.2.2.2.1
    refine ⟨u, σ, τ, ?_, ?_, FR.rf _ _, FR.rf _ _⟩
    · show (if σ 16 7 ≤ (j : Int) then _ else _) = _
      rw [if_pos (by omega)]
    · show (if τ 84 27 ≤ (j : Int) then _ else _) = _
      rw [if_pos (by omega), if_pos (by omega), Int.toNat_natCast, hu]
      by_cases q : τ 88 i = 2
      · rw [if_pos q, if_pos q]
      · rw [if_neg q, if_neg q]
  | d + 1, j, fu1, fu2, σ, τ, hj, h1, h2, h, hF, hu => by
    obtain ⟨n1, rfl⟩ : ∃ n, fu1 = n + 1 := ⟨fu1 - 1, by omega⟩
    obtain ⟨n2, rfl⟩ : ∃ n, fu2 = n + 1 := ⟨fu2 - 1, by omega⟩
    have hm := h.1
    have a3 := h.2.2.1
    have a4 := h.2.2.2.1
    have hjm : j < m := by omega
    have g : (0 : Int) ≤ (j : Int) ∧ (j : Int) < 16 := by omega
    have g17 : (0 : Int) ≤ (j : Int) ∧ (j : Int) < 17 := by omega
    have hj16 : j < 16 := by omega
    have k1 : (j + 1) + d = m := by omega
    have k2 : d < n1 := by omega
    have k3 : d < n2 := by omega
    have nX : ¬ σ 16 7 ≤ (j : Int) := by omega
    have nM : ¬ τ 84 27 ≤ (j : Int) := by omega
    have q88 : ¬ Q108 88 i := by unfold Q108; omega
    obtain ⟨⟨b1, b2, b3, b4⟩, ⟨c1, c2, c3, c4⟩, hRW⟩ := h.2.2.2.2.2 j hjm
    have eX : f_Law_delay_16_p2 (n1 + 1) u (j : Int) σ = (if (R j).1 = 100 then ((f_Law_holds_16 (j : Int) σ).bind fun q4 => (if q4.1 = 0 then (f_Law_delay_16_p2 n1 u ((j + 1 : Nat) : Int) q4.2) else ((f_Law_reckon_16 (q4.2 18 j) (q4.2 19 j) q4.2).bind fun q8 => (some (pMax 1 (pMin 20 q8.1), q8.2))))) else (f_Law_delay_16_p2 n1 u ((j + 1 : Nat) : Int) σ)) := by
      show (if σ 16 7 ≤ (j : Int) then _ else _) = _
      rw [if_neg nX, if_pos g, Int.toNat_natCast, b1, pw_s hj16 (by decide)]
      simp only [if_pos g, if_pos g17]
    have eM : f_M_delayOf_84_p2 (n2 + 1) (i : Int) (j : Int) τ = (if (R j).1 = 100 then ((f_M_reckonsTo_84 (τ 106 j) (τ 107 j) τ).bind fun q8 => (if q8.1 = 1 then ((f_M_reckonsTo_84 (q8.2 105 j) (q8.2 106 j) q8.2).bind fun q12 => (if 1 ≤ q12.1 then (if q12.1 ≤ 20 then (some (q12.1, q12.2)) else (some (20, q12.2))) else (some (1, q12.2)))) else (f_M_delayOf_84_p2 n2 (i : Int) ((j + 1 : Nat) : Int) q8.2))) else (f_M_delayOf_84_p2 n2 (i : Int) ((j + 1 : Nat) : Int) τ)) := by
      show (if τ 84 27 ≤ (j : Int) then _ else _) = _
      rw [if_neg nM, if_pos g, Int.toNat_natCast, c1, pw_s hj16 (by decide)]
      simp only [if_pos g]
    rw [eX, eM]
    by_cases k100 : (R j).1 = 100
    · rw [if_pos k100, if_pos k100]
      obtain ⟨b, v, σ1, τ1, r1, r2, r3, r4, r5⟩ := hs_ls h hF hjm
      rw [r1, r2, Option.bind_some, Option.bind_some]
      dsimp only
      have hL1 := h.sk r4 r5
      have hF1 := hF.mv r4 r5
      rcases r3 with ⟨p1, p2⟩ | ⟨p1, p2⟩
      · rw [if_pos p1, if_neg p2]
        obtain ⟨v', σ', τ', q1, q2, q3, q4⟩ := dl_lp hi (u := u) d (j + 1) n1 n2 σ1 τ1 k1 k2 k3 hL1 hF1 (by rw [r5.get (k := 88) q88]; exact hu)
        exact ⟨v', σ', τ', q1, q2, r4.tr q3, r5.tr q4⟩
      · rw [if_neg (by rw [p1]; decide), if_pos p2]
        obtain ⟨⟨d1, d2, d3, d4⟩, ⟨f1, f2, f3, f4⟩, -⟩ := hL1.2.2.2.2.2 j hjm
        obtain ⟨x, y, z, e1, e2, e3, l1, l2, l3, kE, -⟩ := hRW
        obtain ⟨K, w1, w2, w3⟩ := kE k100
        obtain ⟨w, σ', τ', s1, s2, s3, s4, -⟩ := rk_ls h.2.1 (Nat.le_trans l2 l3) l1 w1 w2 (Or.inr w3) hL1.2.2.2.2.1 hF1
        rw [d2, d3, f2, f3, e1, e2, s1, s2, Option.bind_some, Option.bind_some]
        dsimp only
        exact ⟨_, σ', τ', rfl, mm_eq w τ', r4.tr s3, r5.tr s4⟩
    · rw [if_neg k100, if_neg k100]
      obtain ⟨v', σ', τ', q1, q2, q3, q4⟩ := dl_lp hi (u := u) d (j + 1) n1 n2 σ τ k1 k2 k3 h hF hu
      exact ⟨v', σ', τ', q1, q2, q3, q4⟩
/-- is a store held back: the same in both -/
theorem hb_lp {m : Nat} {c : Cd} {R : Nat → Ru} : ∀ (d j fu1 fu2 : Nat) (σ τ : pS), j + d = m → d < fu1 → d < fu2 → LW m c R σ τ → FCs σ τ → ∃ v σ' τ', f_Law_holdsBack_16_p2 fu1 (j : Int) σ = some (v, σ') ∧ f_M_isHeldBack_84_p2 fu2 (j : Int) τ = some (v, τ') ∧ FR P23 σ σ' ∧ FR Q108 τ τ'
  | 0, j, fu1, fu2, σ, τ, hj, h1, h2, h, hF => by
    obtain ⟨n1, rfl⟩ : ∃ n, fu1 = n + 1 := ⟨fu1 - 1, by omega⟩
    obtain ⟨n2, rfl⟩ : ∃ n, fu2 = n + 1 := ⟨fu2 - 1, by omega⟩
    have a3 := h.2.2.1
    have a4 := h.2.2.2.1
    refine ⟨0, σ, τ, ?_, ?_, FR.rf _ _, FR.rf _ _⟩
    · show (if σ 16 7 ≤ (j : Int) then _ else _) = _
      rw [if_pos (by omega)]
    · show (if τ 84 27 ≤ (j : Int) then _ else _) = _
      rw [if_pos (by omega)]
  | d + 1, j, fu1, fu2, σ, τ, hj, h1, h2, h, hF => by
    obtain ⟨n1, rfl⟩ : ∃ n, fu1 = n + 1 := ⟨fu1 - 1, by omega⟩
    obtain ⟨n2, rfl⟩ : ∃ n, fu2 = n + 1 := ⟨fu2 - 1, by omega⟩
    have hm := h.1
    have a3 := h.2.2.1
    have a4 := h.2.2.2.1
    have hjm : j < m := by omega
    have g : (0 : Int) ≤ (j : Int) ∧ (j : Int) < 16 := by omega
    have hj16 : j < 16 := by omega
    have k1 : (j + 1) + d = m := by omega
    have k2 : d < n1 := by omega
    have k3 : d < n2 := by omega
    have nX : ¬ σ 16 7 ≤ (j : Int) := by omega
    have nM : ¬ τ 84 27 ≤ (j : Int) := by omega
    obtain ⟨⟨b1, -⟩, ⟨c1, -⟩, -⟩ := h.2.2.2.2.2 j hjm
    have eX : f_Law_holdsBack_16_p2 (n1 + 1) (j : Int) σ = (if (R j).1 = 120 then ((f_Law_holds_16 (j : Int) σ).bind fun q4 => (if q4.1 = 0 then (f_Law_holdsBack_16_p2 n1 ((j + 1 : Nat) : Int) q4.2) else (some (1, q4.2)))) else (f_Law_holdsBack_16_p2 n1 ((j + 1 : Nat) : Int) σ)) := by
      show (if σ 16 7 ≤ (j : Int) then _ else _) = _
      rw [if_neg nX, if_pos g, Int.toNat_natCast, b1, pw_s hj16 (by decide)]
    have eM : f_M_isHeldBack_84_p2 (n2 + 1) (j : Int) τ = (if (R j).1 = 120 then ((f_M_reckonsTo_84 (τ 106 j) (τ 107 j) τ).bind fun q6 => (if q6.1 = 1 then (some (1, q6.2)) else (f_M_isHeldBack_84_p2 n2 ((j + 1 : Nat) : Int) q6.2))) else (f_M_isHeldBack_84_p2 n2 ((j + 1 : Nat) : Int) τ)) := by
      show (if τ 84 27 ≤ (j : Int) then _ else _) = _
      rw [if_neg nM, if_pos g, Int.toNat_natCast, c1, pw_s hj16 (by decide)]
      simp only [if_pos g]
    rw [eX, eM]
    by_cases k120 : (R j).1 = 120
    · rw [if_pos k120, if_pos k120]
      obtain ⟨b, v, σ1, τ1, r1, r2, r3, r4, r5⟩ := hs_ls h hF hjm
      rw [r1, r2, Option.bind_some, Option.bind_some]
      dsimp only
      rcases r3 with ⟨p1, p2⟩ | ⟨p1, p2⟩
      · rw [if_pos p1, if_neg p2]
        obtain ⟨v', σ', τ', q1, q2, q3, q4⟩ := hb_lp d (j + 1) n1 n2 σ1 τ1 k1 k2 k3 (h.sk r4 r5) (hF.mv r4 r5)
        exact ⟨v', σ', τ', q1, q2, r4.tr q3, r5.tr q4⟩
      · rw [if_neg (by rw [p1]; decide), if_pos p2]
        exact ⟨1, σ1, τ1, rfl, rfl, r4, r5⟩
    · rw [if_neg k120, if_neg k120]
      exact hb_lp d (j + 1) n1 n2 σ τ k1 k2 k3 h hF
theorem LR.lw {σ τ : pS} (h : LR σ τ) : ∃ (m : Nat) (c : Cd) (R : Nat → Ru), LW m c R σ τ := by
  obtain ⟨m, c, R, a1, a2, a3, a4, a5, a6⟩ := h
  refine ⟨m, c, R, a1, a2, a3, a4, a5, fun j hj => ?_⟩
  obtain ⟨b, c1, c2, c3, c4, c5⟩ := a6 j hj
  exact ⟨b, ⟨c1, c2, c3, c4⟩, c5⟩
