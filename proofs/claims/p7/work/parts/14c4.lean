/-- conditions: 0 either, 1 both, 2 test, 3 behind a both, 4 behind a test -/
def sCd (T : Nat → Int) (n : Int) : Nat → Nat → Int → Int → Cd → (Int × Cd) ⊕ Int
  | 0, _, _, _, _ => .inr 0
  | d + 1, 0, o, p, c => (match sCd T n d 1 o p c with
    | .inr f => .inr f
    | .inl q => sCd T n d 3 o q.1 q.2)
  | d + 1, 1, o, p, c => (match sCd T n d 2 o p c with
    | .inr f => .inr f
    | .inl q => sCd T n d 4 o q.1 q.2)
  | d + 1, 2, o, p, c => if hd T n p = 33 then (if 6 ≤ o then .inr (-1000 * 5 - p) else (match sCd T n d 2 (o + 1) (p + 1) c with
      | .inr f => .inr f
      | .inl q => .inl (q.1, q.2 ++ [(33, 0)])))
    else if hd T n p = 40 then (if 6 ≤ o then .inr (-1000 * 5 - p) else (match sCd T n d 0 (o + 1) (p + 1) c with
      | .inr f => .inr f
      | .inl q => if hd T n q.1 = 41 then .inl (q.1 + 1, q.2) else .inr (-1000 * 1 - q.1)))
    else (match sXp T n 1000 0 o p c with
      | .inr f => .inr f
      | .inl q => if hd T n q.1 = 60 ∨ hd T n q.1 = 62 ∨ hd T n q.1 = 61 then (match sXp T n 1000 0 o (q.1 + 1) q.2 with
          | .inr f => .inr f
          | .inl u => .inl (u.1, u.2 ++ [(hd T n q.1, 0)])) else .inr (-1000 * 1 - q.1))
  | d + 1, 3, o, p, c => if hd T n p = 124 then (match sCd T n d 1 o (p + 1) (c ++ [(124, 0)]) with
      | .inr f => .inr f
      | .inl q => sCd T n d 3 o q.1 (q.2.set c.length (124, (q.2.length : Int)))) else .inl (p, c)
  | d + 1, _, o, p, c => if hd T n p = 38 then (match sCd T n d 2 o (p + 1) (c ++ [(38, 0)]) with
      | .inr f => .inr f
      | .inl q => sCd T n d 4 o q.1 (q.2.set c.length (38, (q.2.length : Int)))) else .inl (p, c)
theorem sCd_0 {T : Nat → Int} {n o p : Int} {c : Cd} {d : Nat} : sCd T n (d + 1) 0 o p c = (match sCd T n d 1 o p c with
    | .inr f => .inr f
    | .inl q => sCd T n d 3 o q.1 q.2) := by rw [sCd]
theorem sCd_1 {T : Nat → Int} {n o p : Int} {c : Cd} {d : Nat} : sCd T n (d + 1) 1 o p c = (match sCd T n d 2 o p c with
    | .inr f => .inr f
    | .inl q => sCd T n d 4 o q.1 q.2) := by rw [sCd]
theorem sCd_2 {T : Nat → Int} {n o p : Int} {c : Cd} {d : Nat} : sCd T n (d + 1) 2 o p c = if hd T n p = 33 then (if 6 ≤ o then .inr (-1000 * 5 - p) else (match sCd T n d 2 (o + 1) (p + 1) c with
      | .inr f => .inr f
      | .inl q => .inl (q.1, q.2 ++ [(33, 0)])))
    else if hd T n p = 40 then (if 6 ≤ o then .inr (-1000 * 5 - p) else (match sCd T n d 0 (o + 1) (p + 1) c with
      | .inr f => .inr f
      | .inl q => if hd T n q.1 = 41 then .inl (q.1 + 1, q.2) else .inr (-1000 * 1 - q.1)))
    else (match sXp T n 1000 0 o p c with
      | .inr f => .inr f
      | .inl q => if hd T n q.1 = 60 ∨ hd T n q.1 = 62 ∨ hd T n q.1 = 61 then (match sXp T n 1000 0 o (q.1 + 1) q.2 with
          | .inr f => .inr f
          | .inl u => .inl (u.1, u.2 ++ [(hd T n q.1, 0)])) else .inr (-1000 * 1 - q.1)) := by rw [sCd]
theorem sCd_3 {T : Nat → Int} {n o p : Int} {c : Cd} {d : Nat} : sCd T n (d + 1) 3 o p c = if hd T n p = 124 then (match sCd T n d 1 o (p + 1) (c ++ [(124, 0)]) with
      | .inr f => .inr f
      | .inl q => sCd T n d 3 o q.1 (q.2.set c.length (124, (q.2.length : Int)))) else .inl (p, c) := by rw [sCd]
theorem sCd_4 {T : Nat → Int} {n o p : Int} {c : Cd} {d : Nat} : sCd T n (d + 1) 4 o p c = if hd T n p = 38 then (match sCd T n d 2 o (p + 1) (c ++ [(38, 0)]) with
      | .inr f => .inr f
      | .inl q => sCd T n d 4 o q.1 (q.2.set c.length (38, (q.2.length : Int)))) else .inl (p, c) := by
  rw [sCd]
  all_goals (intros; omega)
/-- the codes that stand already stay -/
def Pre (c c' : Cd) : Prop := c.length ≤ c'.length ∧ ∀ i, i < c.length → c'[i]? = c[i]?
theorem Pre.rf (c : Cd) : Pre c c := ⟨Nat.le_refl _, fun _ _ => rfl⟩
theorem Pre.tr {a b c : Cd} (h1 : Pre a b) (h2 : Pre b c) : Pre a c := ⟨Nat.le_trans h1.1 h2.1, fun i hi => (h2.2 i (Nat.lt_of_lt_of_le hi h1.1)).trans (h1.2 i hi)⟩
theorem Pre.app (c e : Cd) : Pre c (c ++ e) := ⟨by rw [List.length_append]; omega, fun i hi => List.getElem?_append_left hi⟩
theorem Pre.set {c c' : Cd} (h : Pre c c') {i : Nat} (hi : c.length ≤ i) (x : Int × Int) : Pre c (c'.set i x) := ⟨by rw [List.length_set]; exact h.1, fun j hj => by rw [List.getElem?_set_ne (by omega)]; exact h.2 j hj⟩
theorem sXp_pre {T : Nat → Int} {n : Int} : ∀ (d w : Nat) (o p : Int) (c : Cd) (q : Int × Cd), w ≤ 4 → sXp T n d w o p c = .inl q → Pre c q.2 := by
  intro d
  induction d with
  | zero =>
    intro w o p c q _ h
    rw [sXp] at h
    cases h
  | succ d ih =>
    intro w o p c q hw h
    match w, hw with
    | 0, _ =>
      rw [sXp_0] at h
      cases hr : sXp T n d 1 o p c with
      | inr f => rw [hr] at h; cases h
      | inl u => rw [hr] at h; exact (ih 1 o p c u (by decide) hr).tr (ih 3 o _ _ q (by decide) h)
    | 1, _ =>
      rw [sXp_1] at h
      cases hr : sXp T n d 2 o p c with
      | inr f => rw [hr] at h; cases h
      | inl u => rw [hr] at h; exact (ih 2 o p c u (by decide) hr).tr (ih 4 o _ _ q (by decide) h)
    | 2, _ =>
      rw [sXp_2] at h
      split at h
      · split at h
        · cases h
        · cases hr : sXp T n d 0 (o + 1) (p + 1) c with
          | inr f => rw [hr] at h; cases h
          | inl u =>
            rw [hr] at h
            dsimp only at h
            split at h
            · cases h
              exact ih 0 _ _ c u (by decide) hr
            · cases h
      · split at h
        · cases hr : sNum T n 5 p with
          | inr f => rw [hr] at h; cases h
          | inl u => rw [hr] at h; cases h; exact Pre.app _ _
        · split at h
          · cases h
            exact Pre.app _ _
          · cases h
    | 3, _ =>
      rw [sXp_3] at h
      split at h
      · cases hr : sXp T n d 1 o (p + 1) c with
        | inr f => rw [hr] at h; cases h
        | inl u => rw [hr] at h; exact ((ih 1 o _ c u (by decide) hr).tr (Pre.app _ _)).tr (ih 3 o _ _ q (by decide) h)
      · cases h
        exact Pre.rf _
    | 4, _ =>
      rw [sXp_4] at h
      split at h
      · cases hr : sXp T n d 2 o (p + 1) c with
        | inr f => rw [hr] at h; cases h
        | inl u => rw [hr] at h; exact ((ih 2 o _ c u (by decide) hr).tr (Pre.app _ _)).tr (ih 4 o _ _ q (by decide) h)
      · cases h
        exact Pre.rf _
theorem sCd_pre {T : Nat → Int} {n : Int} : ∀ (d w : Nat) (o p : Int) (c : Cd) (q : Int × Cd), w ≤ 4 → sCd T n d w o p c = .inl q → Pre c q.2 := by
  intro d
  induction d with
  | zero =>
    intro w o p c q _ h
    rw [sCd] at h
    cases h
  | succ d ih =>
    intro w o p c q hw h
    match w, hw with
    | 0, _ =>
      rw [sCd_0] at h
      cases hr : sCd T n d 1 o p c with
      | inr f => rw [hr] at h; cases h
      | inl u => rw [hr] at h; exact (ih 1 o p c u (by decide) hr).tr (ih 3 o _ _ q (by decide) h)
    | 1, _ =>
      rw [sCd_1] at h
      cases hr : sCd T n d 2 o p c with
      | inr f => rw [hr] at h; cases h
      | inl u => rw [hr] at h; exact (ih 2 o p c u (by decide) hr).tr (ih 4 o _ _ q (by decide) h)
    | 2, _ =>
      rw [sCd_2] at h
      split at h
      · split at h
        · cases h
        · cases hr : sCd T n d 2 (o + 1) (p + 1) c with
          | inr f => rw [hr] at h; cases h
          | inl u =>
            rw [hr] at h
            cases h
            exact (ih 2 _ _ c u (by decide) hr).tr (Pre.app _ _)
      · split at h
        · split at h
          · cases h
          · cases hr : sCd T n d 0 (o + 1) (p + 1) c with
            | inr f => rw [hr] at h; cases h
            | inl u =>
              rw [hr] at h
              dsimp only at h
              split at h
              · cases h
                exact ih 0 _ _ c u (by decide) hr
              · cases h
        · cases hr : sXp T n 1000 0 o p c with
          | inr f => rw [hr] at h; cases h
          | inl u =>
            rw [hr] at h
            dsimp only at h
            split at h
            · cases hr2 : sXp T n 1000 0 o (u.1 + 1) u.2 with
              | inr f => rw [hr2] at h; cases h
              | inl v =>
                rw [hr2] at h
                cases h
                exact ((sXp_pre 1000 0 _ _ c u (by decide) hr).tr (sXp_pre 1000 0 _ _ _ v (by decide) hr2)).tr (Pre.app _ _)
            · cases h
    | 3, _ =>
      rw [sCd_3] at h
      split at h
      · cases hr : sCd T n d 1 o (p + 1) (c ++ [(124, 0)]) with
        | inr f => rw [hr] at h; cases h
        | inl u => rw [hr] at h; exact (((Pre.app _ _).tr (ih 1 o _ _ u (by decide) hr)).set (Nat.le_refl _) _).tr (ih 3 o _ _ q (by decide) h)
      · cases h
        exact Pre.rf _
    | 4, _ =>
      rw [sCd_4] at h
      split at h
      · cases hr : sCd T n d 2 o (p + 1) (c ++ [(38, 0)]) with
        | inr f => rw [hr] at h; cases h
        | inl u => rw [hr] at h; exact (((Pre.app _ _).tr (ih 2 o _ _ u (by decide) hr)).set (Nat.le_refl _) _).tr (ih 4 o _ _ q (by decide) h)
      · cases h
        exact Pre.rf _
theorem Pre.mark {c c' : Cd} {s : Int} (h : Pre (c ++ [(s, 0)]) c') : c'[c.length]? = some (s, 0) ∧ c.length < c'.length := by
  have hl : (c ++ [(s, (0 : Int))]).length = c.length + 1 := by rw [List.length_append]; rfl
  refine ⟨?_, by have := h.1; omega⟩
  rw [h.2 c.length (by omega), List.getElem?_append_right (Nat.le_refl _), Nat.sub_self]
  rfl
theorem c_skip {σ : pS} {c : Cd} {T : Nat → Int} {n p : Int} (h : CL σ c) (hP : TP σ T n p) (hl : c.length ≤ 240) {i : Nat} {s x : Int} (hi : c[i]? = some (s, x)) : ∃ σ', f_Law_skipToHere_57 (i : Int) σ = some (0, σ') ∧ CL σ' (c.set i (s, (c.length : Int))) ∧ TP σ' T n p ∧ FR PL σ σ' := by
  have hlt := (List.getElem?_eq_some_iff.mp hi).1
  refine ⟨pU σ 62 i (σ 57 8), ?_, ⟨?_, fun j q hq => ?_⟩, hP.u _ _ (by decide) (by decide), FR.u (Or.inr (Or.inr (Or.inl rfl)))⟩
  · unfold f_Law_skipToHere_57
    rw [if_neg (by omega), if_neg (by omega), if_pos (by omega), Int.toNat_natCast]
  · rw [pU_c _ _ _ _ (by decide), List.length_set]
    exact h.1
  · rw [pU_c _ _ _ _ (by decide)]
    by_cases hj : j = i
    · subst hj
      rw [List.getElem?_set_self hlt] at hq
      cases hq
      rw [pU_s]
      exact ⟨(h.2 j _ hi).1, h.1⟩
    · rw [List.getElem?_set_ne (Ne.symm hj)] at hq
      rw [pU_i _ _ _ _ hj]
      exact h.2 j q hq
theorem c_expr {T : Nat → Int} {n : Int} (hT : TB T n) {o p : Int} {c : Cd} {σ : pS} {s : Int} (hP : TP σ T n p) (hC : CL σ c) (hs : 0 ≤ s) (hl : (c.length : Int) + s ≤ p) (ho1 : 0 ≤ o) (ho2 : o ≤ 6) : cEnd T n σ (rdS 40 0 o σ) (sXp T n 1000 0 o p c) (p + 1) s := by
  have := hP.2.2.1
  exact (c_sum hT 1000 0 o p c σ s (by decide) hP hC hs hl ho1 ho2 (by show 4 * (n - p) + 3 < _; omega)).1 (by decide) 40 (by omega)
theorem c_cond {T : Nat → Int} {n : Int} (hT : TB T n) : ∀ (d w : Nat) (o p : Int) (c : Cd) (σ : pS) (s : Int), w ≤ 4 → TP σ T n p → CL σ c → 0 ≤ s → (c.length : Int) + s ≤ p → 0 ≤ o → o ≤ 6 → 4 * (n - p) + rnk w < d →
    (w ≤ 2 → ∀ g : Nat, 3 * (6 - o) + (2 - (w : Int)) < g → cEnd T n σ (rdC g w o σ) (sCd T n d w o p c) (p + 1) s) ∧
    (w = 3 → ∀ (g fu : Nat) (k : Int), 3 * (6 - o) + 1 < g → 0 ≤ k → k < p → 241 - k < fu → cEnd T n σ (f_Law_readEither_57_1_p13 (rdC g) fu o k σ) (sCd T n d w o p c) p s) ∧
    (w = 4 → ∀ (g fu : Nat) (k : Int), 3 * (6 - o) < g → 0 ≤ k → k < p → 241 - k < fu → cEnd T n σ (f_Law_readBoth_57_1_p13 (rdC g) fu o k σ) (sCd T n d w o p c) p s) := by
  intro d
  induction d with
  | zero =>
    intro w o p c σ s hw hP hC hs hl ho1 ho2 hd9
    have := hP.2.2.1
    exfalso
    have : 1 ≤ rnk w := by unfold rnk; split <;> decide
    omega
  | succ d ih =>
    intro w o p c σ s hw hP hC hs hl ho1 ho2 hd9
    have hPb := hP.2.2.1
    match w, hw, hd9 with
    | 0, _, hd9 =>
      refine ⟨fun _ g hg => ?_, fun h => absurd h (by decide), fun h => absurd h (by decide)⟩
      obtain ⟨g, rfl⟩ : ∃ k, g = k + 1 := ⟨g - 1, by omega⟩
      have hd9 : 4 * (n - p) + 3 < ((d + 1 : Nat) : Int) := hd9
      have h1 := (ih 1 o p c σ s (by decide) hP hC hs hl ho1 ho2 (by show 4 * (n - p) + 2 < _; omega)).1 (by decide) g (by omega)
      rw [sCd_0]
      have e : rdC (g + 1) 0 o σ = f_Law_readEither_57_1 (rdC g) o σ := by
        rw [rdC]
        all_goals decide
      rw [e]
      unfold f_Law_readEither_57_1
      cases hr : sCd T n d 1 o p c with
      | inr f =>
        rw [hr] at h1
        obtain ⟨σ1, a1, b1, c1⟩ := h1
        rw [a1, Option.bind_some]
        exact ⟨σ1, rfl, b1, c1⟩
      | inl q =>
        rw [hr] at h1
        obtain ⟨σ1, a1, b1, c1, d1, e1, f1⟩ := h1
        rw [a1, Option.bind_some]
        dsimp only
        rw [if_neg (by decide)]
        have hPb1 := b1.2.2.1
        exact ((ih 3 o q.1 q.2 σ1 s (by decide) b1 c1 hs e1 ho1 ho2 (by show 4 * (n - q.1) + 1 < _; omega)).2.1 rfl g 4096 0 (by omega) (Int.le_refl _) (by omega) (by omega)).fr d1 f1
    | 1, _, hd9 =>
      refine ⟨fun _ g hg => ?_, fun h => absurd h (by decide), fun h => absurd h (by decide)⟩
      obtain ⟨g, rfl⟩ : ∃ k, g = k + 1 := ⟨g - 1, by omega⟩
      have hd9 : 4 * (n - p) + 2 < ((d + 1 : Nat) : Int) := hd9
      have h1 := (ih 2 o p c σ s (by decide) hP hC hs hl ho1 ho2 (by show 4 * (n - p) + 1 < _; omega)).1 (by decide) g (by omega)
      rw [sCd_1]
      have e : rdC (g + 1) 1 o σ = f_Law_readBoth_57_1 (rdC g) o σ := by
        rw [rdC]
        all_goals decide
      rw [e]
      unfold f_Law_readBoth_57_1
      cases hr : sCd T n d 2 o p c with
      | inr f =>
        rw [hr] at h1
        obtain ⟨σ1, a1, b1, c1⟩ := h1
        rw [a1, Option.bind_some]
        exact ⟨σ1, rfl, b1, c1⟩
      | inl q =>
        rw [hr] at h1
        obtain ⟨σ1, a1, b1, c1, d1, e1, f1⟩ := h1
        rw [a1, Option.bind_some]
        dsimp only
        rw [if_neg (by decide)]
        have hPb1 := b1.2.2.1
        exact ((ih 4 o q.1 q.2 σ1 s (by decide) b1 c1 hs e1 ho1 ho2 (by show 4 * (n - q.1) + 1 < _; omega)).2.2 rfl g 4096 0 (by omega) (Int.le_refl _) (by omega) (by omega)).fr d1 f1
    | 2, _, hd9 =>
      refine ⟨fun _ g hg => ?_, fun h => absurd h (by decide), fun h => absurd h (by decide)⟩
      obtain ⟨g, rfl⟩ : ∃ k, g = k + 1 := ⟨g - 1, by omega⟩
      have hd9 : 4 * (n - p) + 1 < ((d + 1 : Nat) : Int) := hd9
      rw [sCd_2]
      have e : rdC (g + 1) 2 o σ = f_Law_readTest_57_1 (rdC g) o σ := by
        rw [rdC]
        all_goals decide
      rw [e]
      unfold f_Law_readTest_57_1
      rw [c_sign hP, Option.bind_some]
      dsimp only
      by_cases h33 : hd T n p = 33
      · have hp : p < n := hd_in (T := T) (by omega)
        rw [if_pos h33, if_pos h33, c_opn hP hp]
        by_cases ho : 6 ≤ o
        · rw [if_neg (by omega), if_pos ho, Option.bind_some]
          exact ⟨pU σ 1 4 (-1000 * 5 - p), rfl, pU_s _ _ _ _, FR.u (Or.inl rfl)⟩
        · rw [if_pos (by omega), if_neg ho, Option.bind_some]
          dsimp only
          rw [if_neg (by decide), pw_id (by omega) (by omega)]
          have h1 := (ih 2 (o + 1) (p + 1) c (pU σ 1 3 (p + 1)) (s + 1) (by decide) (hP.go (by omega) (by omega)) (hC.mv (CO.u _ _)) (by omega) (by omega) (by omega) (by omega) (by show 4 * (n - (p + 1)) + 1 < _; omega)).1 (by decide) g (by omega)
          cases hr2 : sCd T n d 2 (o + 1) (p + 1) c with
          | inr f =>
            rw [hr2] at h1
            obtain ⟨σ1, a1, b1, c1⟩ := h1
            rw [a1, Option.bind_some]
            exact ⟨σ1, rfl, b1, FR.tr (FR.u (Or.inl rfl)) c1⟩
          | inl q =>
            rw [hr2] at h1
            obtain ⟨σ1, a1, b1, c1, d1, e1, f1⟩ := h1
            rw [a1, Option.bind_some]
            dsimp only
            rw [if_neg (by decide)]
            have hPb1 := b1.2.2.1
            obtain ⟨σ2, a2, b2, c2, d2⟩ := c_add c1 b1 (by omega) 33 0
            rw [a2, Option.bind_some]
            have hd1 : FR PL σ σ2 := (FR.tr (FR.u (Or.inl rfl)) d1).tr d2
            exact ⟨σ2, rfl, c2, b2, hd1, by rw [List.length_append]; simp; omega, by dsimp only; omega⟩
      · rw [if_neg h33, if_neg h33, c_sign hP, Option.bind_some]
        dsimp only
        by_cases h40 : hd T n p = 40
        · have hp : p < n := hd_in (T := T) (by omega)
          rw [if_pos h40, if_pos h40, c_opn hP hp]
          by_cases ho : 6 ≤ o
          · rw [if_neg (by omega), if_pos ho, Option.bind_some]
            exact ⟨pU σ 1 4 (-1000 * 5 - p), rfl, pU_s _ _ _ _, FR.u (Or.inl rfl)⟩
          · rw [if_pos (by omega), if_neg ho, Option.bind_some]
            dsimp only
            rw [if_neg (by decide), pw_id (by omega) (by omega)]
            have h1 := (ih 0 (o + 1) (p + 1) c (pU σ 1 3 (p + 1)) s (by decide) (hP.go (by omega) (by omega)) (hC.mv (CO.u _ _)) hs (by omega) (by omega) (by omega) (by show 4 * (n - (p + 1)) + 3 < _; omega)).1 (by decide) g (by omega)
            cases hr2 : sCd T n d 0 (o + 1) (p + 1) c with
            | inr f =>
              rw [hr2] at h1
              obtain ⟨σ1, a1, b1, c1⟩ := h1
              rw [a1, Option.bind_some]
              exact ⟨σ1, rfl, b1, FR.tr (FR.u (Or.inl rfl)) c1⟩
            | inl q =>
              rw [hr2] at h1
              obtain ⟨σ1, a1, b1, c1, d1, e1, f1⟩ := h1
              rw [a1, Option.bind_some]
              dsimp only
              rw [if_neg (by decide)]
              have hPb1 := b1.2.2.1
              by_cases h41 : hd T n q.1 = 41
              · obtain ⟨σ2, a2, b2, c2⟩ := c_acc1 b1 h41 (by decide)
                rw [if_pos h41, a2, Option.bind_some]
                dsimp only
                rw [if_neg (by decide)]
                have hd1 : FR PL σ σ2 := (FR.tr (FR.u (Or.inl rfl)) d1).tr c2.pl
                exact ⟨σ2, rfl, b2, c1.mv c2, hd1, by dsimp only; omega, by dsimp only; omega⟩
              · obtain ⟨σ2, a2, b2, c2⟩ := c_acc0 b1 h41
                rw [if_neg h41, a2, Option.bind_some]
                have hd1 : FR PL σ σ2 := (FR.tr (FR.u (Or.inl rfl)) d1).tr c2.pl
                exact ⟨σ2, rfl, b2, hd1⟩
        · rw [if_neg h40, if_neg h40]
          have h1 := c_expr hT (o := o) (s := s) hP hC hs hl ho1 ho2
          cases hr : sXp T n 1000 0 o p c with
          | inr f =>
            rw [hr] at h1
            obtain ⟨σ1, a1, b1, c1⟩ := h1
            rw [a1, Option.bind_some]
            exact ⟨σ1, rfl, b1, c1⟩
          | inl q =>
            rw [hr] at h1
            obtain ⟨σ1, a1, b1, c1, d1, e1, f1⟩ := h1
            have hPb1 := b1.2.2.1
            rw [a1, Option.bind_some]
            dsimp only
            rw [if_neg (by decide), c_sign b1, Option.bind_some]
            dsimp only
            have e9 : (hd T n q.1 = 60 ∨ hd T n q.1 = 62 ∨ hd T n q.1 = 61) → cEnd T n σ (f_Law_readTest_57_1_p123 (rdC g) o (hd T n q.1) σ1) (match sXp T n 1000 0 o (q.1 + 1) q.2 with
                | .inr f => .inr f
                | .inl u => .inl (u.1, u.2 ++ [(hd T n q.1, 0)])) (p + 1) s := by
              intro hq
              have hp : q.1 < n := hd_in (T := T) (by omega)
              obtain ⟨hs1, hs2⟩ := c_step b1 hp
              unfold f_Law_readTest_57_1_p123
              rw [hs1, Option.bind_some]
              dsimp only
              have h2 := c_expr hT (o := o) (s := s + 1) hs2 (c1.mv (CO.u _ _)) (by omega) (by omega) ho1 ho2
              cases hr2 : sXp T n 1000 0 o (q.1 + 1) q.2 with
              | inr f =>
                rw [hr2] at h2
                obtain ⟨σ2, a2, b2, c2⟩ := h2
                rw [a2, Option.bind_some]
                exact ⟨σ2, rfl, b2, (d1.tr (FR.u (Or.inl rfl))).tr c2⟩
              | inl u =>
                rw [hr2] at h2
                obtain ⟨σ2, a2, b2, c2, d2, e2, f2⟩ := h2
                have hPb2 := b2.2.2.1
                rw [a2, Option.bind_some]
                dsimp only
                rw [if_neg (by decide)]
                obtain ⟨σ3, a3, b3, c3, d3⟩ := c_add c2 b2 (by omega) (hd T n q.1) 0
                rw [a3, Option.bind_some]
                have hd1 : FR PL σ σ3 := ((d1.tr (FR.u (Or.inl rfl))).tr d2).tr d3
                exact ⟨σ3, rfl, c3, b3, hd1, by rw [List.length_append]; simp; omega, by dsimp only; omega⟩
            by_cases h60 : hd T n q.1 = 60
            · rw [if_pos h60, if_pos (Or.inl h60)]
              exact e9 (Or.inl h60)
            · by_cases h62 : hd T n q.1 = 62
              · rw [if_neg h60, if_pos h62, if_pos (Or.inr (Or.inl h62))]
                exact e9 (Or.inr (Or.inl h62))
              · by_cases h61 : hd T n q.1 = 61
                · rw [if_neg h60, if_neg h62, if_pos h61, if_pos (Or.inr (Or.inr h61))]
                  exact e9 (Or.inr (Or.inr h61))
                · rw [if_neg h60, if_neg h62, if_neg h61, if_neg (by omega), c_fail b1 (by omega), Option.bind_some]
                  dsimp only
                  rw [if_pos (by decide)]
                  exact ⟨_, rfl, pU_s _ _ _ _, d1.tr (FR.u (Or.inl rfl))⟩
    | 3, _, hd9 =>
      refine ⟨fun h => absurd h (by decide), fun _ g fu k hg hk0 hk hfu => ?_, fun h => absurd h (by decide)⟩
      obtain ⟨fu, rfl⟩ : ∃ k, fu = k + 1 := ⟨fu - 1, by omega⟩
      have hd9 : 4 * (n - p) + 1 < ((d + 1 : Nat) : Int) := hd9
      rw [sCd_3, f_Law_readEither_57_1_p13, if_neg (by omega), c_sign hP, Option.bind_some]
      dsimp only
      by_cases hc : hd T n p = 124
      · have hp : p < n := hd_in (T := T) (by omega)
        obtain ⟨hs1, hs2⟩ := c_step hP hp
        rw [if_pos hc, if_pos hc, hs1, Option.bind_some]
        dsimp only
        obtain ⟨σ1, a1, b1, c1, d1⟩ := c_add (hC.mv (CO.u _ _)) hs2 (by omega) 124 0
        rw [a1, Option.bind_some]
        dsimp only
        have h1 := (ih 1 o (p + 1) (c ++ [(124, 0)]) σ1 s (by decide) c1 b1 hs (by rw [List.length_append]; simp; omega) ho1 ho2 (by show 4 * (n - (p + 1)) + 2 < _; omega)).1 (by decide) g (by omega)
        cases hr2 : sCd T n d 1 o (p + 1) (c ++ [(124, 0)]) with
        | inr f =>
          rw [hr2] at h1
          obtain ⟨σ2, a2, b2, c2⟩ := h1
          rw [a2, Option.bind_some]
          exact ⟨σ2, rfl, b2, (FR.tr (FR.u (Or.inl rfl)) d1).tr c2⟩
        | inl q =>
          rw [hr2] at h1
          obtain ⟨σ2, a2, b2, c2, d2, e2, f2⟩ := h1
          rw [a2, Option.bind_some]
          dsimp only
          rw [if_neg (by decide)]
          have hPb2 := b2.2.2.1
          obtain ⟨hm, _⟩ := (sCd_pre d 1 _ _ _ q (by decide) hr2).mark
          obtain ⟨σ3, a3, b3, c3, d3⟩ := c_skip c2 b2 (by omega) hm
          rw [a3, Option.bind_some]
          dsimp only
          rw [pw_id (by omega) (by omega)]
          have hd1 : FR PL σ σ3 := ((FR.tr (FR.u (Or.inl rfl)) d1).tr d2).tr d3
          exact ((ih 3 o q.1 (q.2.set c.length (124, (q.2.length : Int))) σ3 s (by decide) c3 b3 hs (by rw [List.length_set]; exact e2) ho1 ho2 (by show 4 * (n - q.1) + 1 < _; omega)).2.1 rfl g fu (k + 1) hg (by omega) (by omega) (by omega)).fr hd1 (by omega)
      · rw [if_neg hc, if_neg hc]
        exact ⟨σ, rfl, hP, hC, FR.rf _ _, hl, Int.le_refl _⟩
    | 4, _, hd9 =>
      refine ⟨fun h => absurd h (by decide), fun h => absurd h (by decide), fun _ g fu k hg hk0 hk hfu => ?_⟩
      obtain ⟨fu, rfl⟩ : ∃ k, fu = k + 1 := ⟨fu - 1, by omega⟩
      have hd9 : 4 * (n - p) + 1 < ((d + 1 : Nat) : Int) := hd9
      rw [sCd_4, f_Law_readBoth_57_1_p13, if_neg (by omega), c_sign hP, Option.bind_some]
      dsimp only
      by_cases hc : hd T n p = 38
      · have hp : p < n := hd_in (T := T) (by omega)
        obtain ⟨hs1, hs2⟩ := c_step hP hp
        rw [if_pos hc, if_pos hc, hs1, Option.bind_some]
        dsimp only
        obtain ⟨σ1, a1, b1, c1, d1⟩ := c_add (hC.mv (CO.u _ _)) hs2 (by omega) 38 0
        rw [a1, Option.bind_some]
        dsimp only
        have h1 := (ih 2 o (p + 1) (c ++ [(38, 0)]) σ1 s (by decide) c1 b1 hs (by rw [List.length_append]; simp; omega) ho1 ho2 (by show 4 * (n - (p + 1)) + 1 < _; omega)).1 (by decide) g (by omega)
        cases hr2 : sCd T n d 2 o (p + 1) (c ++ [(38, 0)]) with
        | inr f =>
          rw [hr2] at h1
          obtain ⟨σ2, a2, b2, c2⟩ := h1
          rw [a2, Option.bind_some]
          exact ⟨σ2, rfl, b2, (FR.tr (FR.u (Or.inl rfl)) d1).tr c2⟩
        | inl q =>
          rw [hr2] at h1
          obtain ⟨σ2, a2, b2, c2, d2, e2, f2⟩ := h1
          rw [a2, Option.bind_some]
          dsimp only
          rw [if_neg (by decide)]
          have hPb2 := b2.2.2.1
          obtain ⟨hm, _⟩ := (sCd_pre d 2 _ _ _ q (by decide) hr2).mark
          obtain ⟨σ3, a3, b3, c3, d3⟩ := c_skip c2 b2 (by omega) hm
          rw [a3, Option.bind_some]
          dsimp only
          rw [pw_id (by omega) (by omega)]
          have hd1 : FR PL σ σ3 := ((FR.tr (FR.u (Or.inl rfl)) d1).tr d2).tr d3
          exact ((ih 4 o q.1 (q.2.set c.length (38, (q.2.length : Int))) σ3 s (by decide) c3 b3 hs (by rw [List.length_set]; exact e2) ho1 ho2 (by show 4 * (n - q.1) + 1 < _; omega)).2.2 rfl g fu (k + 1) hg (by omega) (by omega) (by omega)).fr hd1 (by omega)
      · rw [if_neg hc, if_neg hc]
        exact ⟨σ, rfl, hP, hC, FR.rf _ _, hl, Int.le_refl _⟩
section CN
variable {T : Nat → Int} {n p o : Int} {c : Cd} {K : Ks} {τ : pS}
theorem ML.set {τ τ' : pS} {c : Cd} (h : ML τ c) {i : Nat} {s x v : Int} (hi : c[i]? = some (s, x)) (hv : 0 ≤ v ∧ v < 1048576) (e1 : τ' 84 24 = τ 84 24) (e2 : τ' 97 i = 1048576 * mop s + v) (e3 : ∀ j, j ≠ i → τ' 97 j = τ 97 j) : ML τ' (c.set i (s, v)) := by
  have hlt := (List.getElem?_eq_some_iff.mp hi).1
  refine ⟨by rw [e1, h.1, List.length_set], fun j q hq => ?_⟩
  by_cases hj : j = i
  · subst hj
    rw [List.getElem?_set_self hlt] at hq
    cases hq
    exact ⟨e2, hv⟩
  · rw [List.getElem?_set_ne (Ne.symm hj)] at hq
    rw [e3 j hj]
    exact h.2 j q hq
theorem m_l22 {op a : Int} {i : Nat} {s x : Int} {k0 : Int → pS → Option (Int × pS)} (h : ST τ T n p c (K ++ [(op, (i : Int))]) o) (hi : c[i]? = some (s, x)) (hl : K.length < 260) (hc : c.length ≤ 260) : ∃ τ', f_M_lands_84_p22 k0 a τ = k0 a τ' ∧ ST τ' T n p (c.set i (s, (c.length : Int))) K o ∧ FR QL τ τ' := by
  obtain ⟨h1, hM, hK, h6⟩ := h
  have hlt := (List.getElem?_eq_some_iff.mp hi).1
  obtain ⟨g1, g2, g3⟩ := hM.2 i _ hi
  obtain ⟨k1, k2, k3, k4⟩ := hK.last
  dsimp only at g1 g2 g3 k2 k3 k4
  have hm := mop_r s
  have hb := h1.2.2.1
  have er : pRem (τ 98 K.length) 1048576 = (i : Int) := by rw [k2]; exact unit_rem k3 k4
  have ed : pDiv (τ 97 i) 1048576 = mop s := by rw [g1]; exact unit_div (by omega) ⟨g2, g3⟩
  refine ⟨pU (pU τ 97 i (1048576 * mop s + (c.length : Int))) 84 25 (K.length : Int), ?_, ⟨?_, ?_, ?_, ?_⟩, (FR.u (Or.inr (Or.inl rfl))).tr (FR.u (Or.inl ⟨rfl, by decide⟩))⟩
  · unfold f_M_lands_84_p22
    rw [k1, pw_id (z := (K.length : Int) + 1 - 1) (by omega) (by omega), show (K.length : Int) + 1 - 1 = (K.length : Int) by omega, Int.toNat_natCast, er, if_pos (by omega), if_pos (by omega), if_pos (by omega), Int.toNat_natCast, ed, hM.1, pw_id (z := 1048576 * mop s) (by omega) (by omega), pw_id (z := 1048576 * mop s + (c.length : Int)) (by omega) (by omega)]
  · exact h1.at ((pU_i _ _ _ _ (by decide)).trans ((pU_c _ _ _ _ (by decide)).trans h1.1)) ((pU_i _ _ _ _ (by decide)).trans (pU_c _ _ _ _ (by decide))) (fun i => (pU_c _ _ _ _ (by decide)).trans (pU_c _ _ _ _ (by decide))) h1.2.2.1.1 h1.2.2.1.2.1
  · exact hM.set hi (by omega) ((pU_i _ _ _ _ (by decide)).trans (pU_c _ _ _ _ (by decide))) ((pU_c _ _ _ _ (by decide)).trans (pU_s _ _ _ _)) (fun j hj => (pU_c _ _ _ _ (by decide)).trans (pU_i _ _ _ _ hj))
  · exact hK.pop (by rw [pU_s, k1]; omega) (fun j => (pU_c _ _ _ _ (by decide)).trans (pU_c _ _ _ _ (by decide)))
  · exact (pU_i _ _ _ _ (by decide)).trans ((pU_c _ _ _ _ (by decide)).trans h6)
/-- a jump that waits: its place -/
def jk (op : Int) (X : Option Nat) : Ks := match X with
  | none => []
  | some i => [(op, (i : Int))]
def pch (s : Int) (X : Option Nat) (c : Cd) : Cd := match X with
  | none => c
  | some i => c.set i (s, (c.length : Int))
def mk (s : Int) (X : Option Nat) (c : Cd) : Prop := ∀ i, X = some i → ∃ x, c[i]? = some (s, x)
theorem pch_len {s : Int} {X : Option Nat} {c : Cd} : (pch s X c).length = c.length := by
  unfold pch
  split
  · rfl
  · rw [List.length_set]
theorem jk_len {op : Int} {X : Option Nat} : (jk op X).length ≤ 1 := by
  unfold jk
  split
  · exact Nat.zero_le _
  · exact Nat.le_refl _
theorem la_x {X : Option Nat} {op s all : Int} {fu : Nat} (h : ST τ T n p c (K ++ jk op X) o) (hX : mk s X c) (hop : op = 11 ∨ (op = 12 ∧ all = 1)) (hl : K.length < 258) (hc : c.length < 258) : ∃ (fu' : Nat) (τ' : pS), fu ≤ fu' ∧ f_M_lands_84_p0 (fu + 1) all τ = f_M_lands_84_p0 fu' all τ' ∧ ST τ' T n p (pch s X c) K o ∧ FR QL τ τ' := by
  cases X with
  | none =>
    rw [show K ++ jk op none = K from List.append_nil K] at h
    exact ⟨fu + 1, τ, Nat.le_succ _, rfl, h, FR.rf _ _⟩
  | some i =>
    obtain ⟨x, hx⟩ := hX i rfl
    have h : ST τ T n p c (K ++ [(op, (i : Int))]) o := h
    obtain ⟨τ', a, b, d⟩ := m_l22 (k0 := f_M_lands_84_p0 fu) (a := all) h hx (by omega) (by omega)
    have ht := m_top h.2.2.1 (by rw [List.length_append]; simp; omega)
    rw [tp_s] at ht
    refine ⟨fu, τ', Nat.le_refl _, ?_, b, d⟩
    rw [f_M_lands_84_p0, ht, Option.bind_some]
    dsimp only
    rcases hop with rfl | ⟨rfl, rfl⟩
    · rw [if_pos rfl, a]
    · rw [if_neg (by decide), if_neg (by decide), ht, Option.bind_some]
      dsimp only
      rw [if_pos rfl, a]
theorem lan_0 {all : Int} {fu : Nat} (h : ST τ T n p c K o) (hl : K.length ≤ 260) (h1 : tp K ≠ 11) (h2 : all = 0 ∨ (all = 1 ∧ tp K ≠ 12)) : f_M_lands_84_p0 (fu + 1) all τ = some (0, τ) := by
  have ht := m_top h.2.2.1 hl
  rw [f_M_lands_84_p0, ht, Option.bind_some]
  dsimp only
  rw [if_neg h1]
  rcases h2 with rfl | ⟨rfl, h3⟩
  · rw [if_pos rfl]
  · rw [if_neg (by decide), ht, Option.bind_some]
    dsimp only
    rw [if_neg h3]
theorem la_and {N : Option Nat} (h : ST τ T n p c (K ++ jk 11 N) o) (hN : mk 38 N c) (hl : K.length < 258) (hc : c.length < 258) (h1 : tp K ≠ 11) : ∃ τ', f_M_lands_84 0 τ = some (0, τ') ∧ ST τ' T n p (pch 38 N c) K o ∧ FR QL τ τ' := by
  obtain ⟨f1, τ1, l1, a1, b1, c1⟩ := la_x (fu := 4095) (all := 0) h hN (Or.inl rfl) hl hc
  obtain ⟨f1, rfl⟩ : ∃ k, f1 = k + 1 := ⟨f1 - 1, by omega⟩
  refine ⟨τ1, ?_, b1, c1⟩
  have e : f_M_lands_84 0 τ = f_M_lands_84_p0 (4095 + 1) 0 τ := rfl
  rw [e, a1]
  exact lan_0 b1 (by omega) h1 (Or.inl rfl)
theorem la_all {O N : Option Nat} (h : ST τ T n p c (K ++ jk 12 O ++ jk 11 N) o) (hO : mk 124 O (pch 38 N c)) (hN : mk 38 N c) (hl : K.length < 257) (hc : c.length < 258) (h1 : tp K ≠ 11) (h2 : tp K ≠ 12) : ∃ τ', f_M_lands_84 1 τ = some (0, τ') ∧ ST τ' T n p (pch 124 O (pch 38 N c)) K o ∧ FR QL τ τ' := by
  obtain ⟨f1, τ1, l1, a1, b1, c1⟩ := la_x (fu := 4095) (all := 1) h hN (Or.inl rfl) (by rw [List.length_append]; have := jk_len (op := 12) (X := O); omega) hc
  obtain ⟨f1, rfl⟩ : ∃ k, f1 = k + 1 := ⟨f1 - 1, by omega⟩
  obtain ⟨f2, τ2, l2, a2, b2, c2⟩ := la_x (fu := f1) (all := 1) b1 hO (Or.inr ⟨rfl, rfl⟩) (by omega) (by rw [pch_len]; exact hc)
  obtain ⟨f2, rfl⟩ : ∃ k, f2 = k + 1 := ⟨f2 - 1, by omega⟩
  refine ⟨τ2, ?_, b2, c1.tr c2⟩
  have e : f_M_lands_84 1 τ = f_M_lands_84_p0 (4095 + 1) 1 τ := rfl
  rw [e, a1, a2]
  exact lan_0 b2 (by omega) h1 (Or.inr ⟨rfl, h2⟩)
theorem m_jmp (h : ST τ T n p c K o) (hp : p < n) (hl : K.length < 260) (hc : c.length < 260) {s op : Int} (hs : mop s = op) : ∃ τ', f_M_jumps_84 op τ = some (0, τ') ∧ ST τ' T n (p + 1) (c ++ [(s, 0)]) (K ++ [(op, (c.length : Int))]) o ∧ FR QL τ τ' := by
  obtain ⟨h1, hM, hK, h6⟩ := h
  have hb := h1.2.2.1
  have hm := mop_r s
  have hpush : ST (pU (pU τ 98 K.length (1048576 * op + (c.length : Int))) 84 25 ((K.length : Int) + 1)) T n p c (K ++ [(op, (c.length : Int))]) o := by
    refine ⟨?_, ⟨?_, fun i q hq => ?_⟩, ?_, ?_⟩
    · exact h1.at (by simp [pU, h1.1]) (by simp [pU]) (fun i => by simp [pU]) hb.1 hb.2.1
    · simp [pU, hM.1]
    · rw [show pU (pU τ 98 K.length (1048576 * op + (c.length : Int))) 84 25 ((K.length : Int) + 1) 97 i = τ 97 i by simp [pU]]
      exact hM.2 i q hq
    · exact hK.push (by omega) (by omega) (by simp [pU]) (by simp [pU]) (fun i hi => by simp [pU, hi])
    · simp [pU, h6]
  obtain ⟨τ1, a1, b1, c1⟩ := m_note hpush hc hs (v := 0) (by omega)
  refine ⟨pU τ1 84 19 (p + 1), ?_, b1.nx (by omega) (by omega), (((FR.u (Or.inr (Or.inr rfl))).tr (FR.u (Or.inl ⟨rfl, by decide⟩))).tr c1).tr (FR.u (Or.inl ⟨rfl, by decide⟩))⟩
  unfold f_M_jumps_84
  rw [hK.1, if_pos (by omega), hM.1, pw_id (z := 1048576 * op) (by omega) (by omega), pw_id (z := 1048576 * op + (c.length : Int)) (by omega) (by omega), pw_id (z := (K.length : Int) + 1) (by omega) (by omega), Int.toNat_natCast, a1, Option.bind_some]
  dsimp only
  rw [b1.1.1, pw_id (by omega) (by omega)]
theorem m_e1 {fu : Nat} (h : ST τ T n p c (K ++ [(10, 0)]) o) (hl : K.length < 260) (hc : c.length < 260) (ho : -1000 ≤ o ∧ o ≤ 1000) : ∃ τ', f_M_endsPiece_84_p0 (fu + 1) τ = f_M_endsPiece_84_p0 fu τ' ∧ ST τ' T n p (c ++ [(33, 0)]) K (o - 1) ∧ FR QL τ τ' := by
  have ht := m_top h.2.2.1 (by rw [List.length_append]; simp; omega)
  rw [tp_s] at ht
  obtain ⟨τ1, a1, b1, c1⟩ := m_note h hc (op := 10) (s := 33) (v := 0) (by decide) (by omega)
  have hlast := b1.2.2.1.last
  refine ⟨pU (pU τ1 84 25 (K.length : Int)) 84 23 (o - 1), ?_, ⟨?_, ⟨?_, fun i q hq => ?_⟩, ?_, ?_⟩, (c1.tr (FR.u (Or.inl ⟨rfl, by decide⟩))).tr (FR.u (Or.inl ⟨rfl, by decide⟩))⟩
  · rw [f_M_endsPiece_84_p0, ht, Option.bind_some]
    dsimp only
    rw [if_pos rfl, a1, Option.bind_some]
    dsimp only
    rw [hlast.1, b1.2.2.2, pw_id (z := (K.length : Int) + 1 - 1) (by omega) (by omega), show (K.length : Int) + 1 - 1 = (K.length : Int) by omega, pw_id (z := o - 1) (by omega) (by omega)]
  · exact b1.1.at (by simp [pU, b1.1.1]) (by simp [pU]) (fun i => by simp [pU]) b1.1.2.2.1.1 b1.1.2.2.1.2.1
  · have := b1.2.1.1
    simp [pU] at this ⊢
    exact this
  · rw [show pU (pU τ1 84 25 (K.length : Int)) 84 23 (o - 1) 97 i = τ1 97 i by simp [pU]]
    exact b1.2.1.2 i q hq
  · exact b1.2.2.1.pop (by rw [hlast.1]; simp [pU]) (fun i => by simp [pU])
  · exact pU_s _ _ _ _
theorem m_e0 {fu : Nat} (h : ST τ T n p c K o) (hl : K.length ≤ 260) (h1 : tp K ≠ 10) : f_M_endsPiece_84_p0 (fu + 1) τ = some (0, τ) := by
  have ht := m_top h.2.2.1 hl
  rw [f_M_endsPiece_84_p0, ht, Option.bind_some]
  dsimp only
  rw [if_neg h1]
end CN
def mBc (fk fu : Nat) (τ : pS) : Option (Int × pS) := f_M_readsCondition_84_p92 (f_M_readsCondition_84_p40 fk) fu τ
def mE (fk fe fu : Nat) (τ : pS) : Option (Int × pS) := (f_M_endsPiece_84_p0 fe τ).bind fun q => f_M_readsCondition_84_p92 (f_M_readsCondition_84_p40 fk) fu q.2
def tEnd (T : Nat → Int) (n o : Int) (K : Ks) (τ : pS) (F : Option (Int × pS)) (r : (Int × Cd) ⊕ Int) (lb s : Int) : Prop := match r with
  | .inr f => ∃ τ', F = some (0, τ') ∧ τ' 84 21 = f ∧ FR QL τ τ'
  | .inl q => ∃ (fk fe fu : Nat) (τ' : pS), F = mE fk fe fu τ' ∧ n - q.1 < fk ∧ (K.length : Int) < fe ∧ n - q.1 < fu ∧ ST τ' T n q.1 q.2 K o ∧ FR QL τ τ' ∧ (q.2.length : Int) + s ≤ q.1 ∧ lb ≤ q.1
def dEnd (T : Nat → Int) (n o : Int) (K : Ks) (w : Nat) (τ : pS) (F : Option (Int × pS)) (r : (Int × Cd) ⊕ Int) (lb s : Int) : Prop := match r with
  | .inr f => ∃ τ', F = some (0, τ') ∧ τ' 84 21 = f ∧ FR QL τ τ'
  | .inl q => ∃ (fk fu : Nat) (τ' : pS) (cm : Cd) (O N : Option Nat), F = mBc fk fu τ' ∧ n - q.1 < fk ∧ n - q.1 < fu ∧ ST τ' T n q.1 cm (K ++ jk 12 O ++ jk 11 N) o ∧ (mk 124 O (pch 38 N cm) ∧ mk 38 N cm) ∧ q.2 = pch 124 O (pch 38 N cm) ∧ ((w = 1 ∨ w = 4 → O = none) ∧ hd T n q.1 ≠ 38 ∧ (w = 0 ∨ w = 3 → hd T n q.1 ≠ 124)) ∧ FR QL τ τ' ∧ (q.2.length : Int) + s ≤ q.1 ∧ lb ≤ q.1
theorem dEnd.up {T : Nat → Int} {n o : Int} {K : Ks} {w w' : Nat} {τ τ1 : pS} {F F1 : Option (Int × pS)} {r : (Int × Cd) ⊕ Int} {lb lb1 s : Int} (h : dEnd T n o K w' τ1 F1 r lb1 s) (hF : F = F1) (hf : FR QL τ τ1) (hl : lb ≤ lb1) (hw : (w = 0 ∧ w' = 3) ∨ (w = 1 ∧ w' = 4) ∨ w = w') : dEnd T n o K w τ F r lb s := by
  subst hF
  cases r with
  | inr f =>
    obtain ⟨τ', a, b, c⟩ := h
    exact ⟨τ', a, b, hf.tr c⟩
  | inl q =>
    obtain ⟨fk, fu, τ', cm, O, N, h1, h2, h3, h4, h5, h6, ⟨h7, h8, h9⟩, h10, h11, h12⟩ := h
    exact ⟨fk, fu, τ', cm, O, N, h1, h2, h3, h4, h5, h6, ⟨fun e => h7 (by omega), h8, fun e => h9 (by omega)⟩, hf.tr h10, h11, by omega⟩
theorem mE_0 {T : Nat → Int} {n p o : Int} {c : Cd} {K : Ks} {τ : pS} {fk fe fu : Nat} (h : ST τ T n p c K o) (hl : K.length ≤ 260) (h1 : tp K ≠ 10) (hfe : (K.length : Int) < fe) : mE fk fe fu τ = mBc fk fu τ := by
  obtain ⟨k, rfl⟩ : ∃ k, fe = k + 1 := ⟨fe - 1, by omega⟩
  unfold mE mBc
  rw [m_e0 h hl h1, Option.bind_some]
/-- two sums and a sign between them -/
theorem m_cmp {T : Nat → Int} {n o p : Int} {c : Cd} {K : Ks} {τ : pS} (h : ST τ T n p c K o) (hNS : NS K) {s : Int} (hs : 0 ≤ s) (hl : (c.length : Int) + s ≤ p) (hk : (K.length : Int) ≤ p) (ho1 : 0 ≤ o) (ho2 : o ≤ 6) {fi : Nat} (hfi : n - p < fi + 1) : tEnd T n o K τ ((f_M_readsCompared_84 τ).bind fun q13 => (if q13.1 = 0 then (some (0, q13.2)) else (f_M_readsCondition_84_p92 (f_M_readsCondition_84_p40 fi) 4096 q13.2))) (match sXp T n 1000 0 o p c with
      | .inr f => .inr f
      | .inl q => if hd T n q.1 = 60 ∨ hd T n q.1 = 62 ∨ hd T n q.1 = 61 then (match sXp T n 1000 0 o (q.1 + 1) q.2 with
          | .inr f => .inr f
          | .inl u => .inl (u.1, u.2 ++ [(hd T n q.1, 0)])) else .inr (-1000 * 1 - q.1)) (p + 1) s := by
  have hPb := h.1.2.2.1
  have h1 := m_expr h hNS hs hl hk ho1 ho2
  unfold f_M_readsCompared_84
  cases hr : sXp T n 1000 0 o p c with
  | inr f =>
    rw [hr] at h1
    obtain ⟨τ1, a1, b1, c1⟩ := h1
    rw [a1, Option.bind_some]
    dsimp only
    rw [if_pos rfl, Option.bind_some]
    exact ⟨τ1, rfl, b1, c1⟩
  | inl q =>
    rw [hr] at h1
    obtain ⟨τ1, a1, b1, c1, d1, e1⟩ := h1
    have hb1 := b1.1.2.2.1
    rw [a1, Option.bind_some]
    dsimp only
    rw [if_neg (by decide), m_here b1.1, Option.bind_some]
    dsimp only
    have e9 : (hd T n q.1 = 60 ∨ hd T n q.1 = 62 ∨ hd T n q.1 = 61) → tEnd T n o K τ ((f_M_readsCompared_84_p52 (mop (hd T n q.1)) τ1).bind fun q13 => (if q13.1 = 0 then (some (0, q13.2)) else (f_M_readsCondition_84_p92 (f_M_readsCondition_84_p40 fi) 4096 q13.2))) (match sXp T n 1000 0 o (q.1 + 1) q.2 with
          | .inr f => .inr f
          | .inl u => .inl (u.1, u.2 ++ [(hd T n q.1, 0)])) (p + 1) s := by
      intro hq
      have hp : q.1 < n := hd_in (T := T) (by omega)
      have hm := mop_r (hd T n q.1)
      unfold f_M_readsCompared_84_p52
      rw [if_neg (by omega), b1.1.1, pw_id (by omega) (by omega)]
      have h2 := m_expr (b1.nx (q := q.1 + 1) (by omega) (by omega)) hNS (s := s + 1) (by omega) (by omega) (by omega) ho1 ho2
      cases hr2 : sXp T n 1000 0 o (q.1 + 1) q.2 with
      | inr f =>
        rw [hr2] at h2
        obtain ⟨τ2, a2, b2, c2⟩ := h2
        rw [a2, Option.bind_some]
        dsimp only
        rw [if_pos rfl, Option.bind_some]
        exact ⟨τ2, rfl, b2, (c1.tr (FR.u (Or.inl ⟨rfl, by decide⟩))).tr c2⟩
      | inl u =>
        rw [hr2] at h2
        obtain ⟨τ2, a2, b2, c2, d2, e2⟩ := h2
        have hb2 := b2.1.2.2.1
        rw [a2, Option.bind_some]
        dsimp only
        rw [if_neg (by decide)]
        obtain ⟨τ3, a3, b3, c3⟩ := m_note b2 (by omega) (s := hd T n q.1) (v := 0) rfl (by omega)
        rw [a3, Option.bind_some]
        dsimp only
        refine ⟨fi, 4096, 4096, τ3, ?_, by dsimp only; omega, by omega, by dsimp only; omega, b3, ((c1.tr (FR.u (Or.inl ⟨rfl, by decide⟩))).tr c2).tr c3, by rw [List.length_append]; simp; omega, by dsimp only; omega⟩
        unfold mE f_M_endsPiece_84
        cases f_M_endsPiece_84_p0 4096 τ3 <;> rfl
    by_cases h60 : hd T n q.1 = 60
    · rw [if_pos h60, if_pos (Or.inl h60)]
      have := e9 (Or.inl h60)
      rw [show mop (hd T n q.1) = 7 by rw [h60]; decide] at this
      exact this
    · by_cases h62 : hd T n q.1 = 62
      · rw [if_neg h60, m_here b1.1, Option.bind_some]
        dsimp only
        rw [if_pos h62, if_pos (Or.inr (Or.inl h62))]
        have := e9 (Or.inr (Or.inl h62))
        rw [show mop (hd T n q.1) = 8 by rw [h62]; decide] at this
        exact this
      · by_cases h61 : hd T n q.1 = 61
        · rw [if_neg h60, m_here b1.1, Option.bind_some]
          dsimp only
          rw [if_neg h62, m_here b1.1, Option.bind_some]
          dsimp only
          rw [if_pos h61, if_pos (Or.inr (Or.inr h61))]
          have := e9 (Or.inr (Or.inr h61))
          rw [show mop (hd T n q.1) = 9 by rw [h61]; decide] at this
          exact this
        · rw [if_neg h60, m_here b1.1, Option.bind_some]
          dsimp only
          rw [if_neg h62, m_here b1.1, Option.bind_some]
          dsimp only
          rw [if_neg h61, if_neg (by omega)]
          unfold f_M_readsCompared_84_p52
          rw [if_pos rfl, b1.1.1, m_wrong (by omega) (by omega), Option.bind_some]
          dsimp only
          rw [if_pos (by decide), Option.bind_some]
          dsimp only
          rw [if_pos rfl]
          exact ⟨_, rfl, pU_s _ _ _ _, c1.tr (FR.u (Or.inl ⟨rfl, by decide⟩))⟩
