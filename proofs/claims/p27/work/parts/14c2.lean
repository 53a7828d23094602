/-- codes: a sign, a number -/
abbrev Cd : Type := List (Int × Int)
/-- 0 sum, 1 product, 2 factor, 3 behind a product, 4 behind a factor -/
def sXp (T : Nat → Int) (n : Int) : Nat → Nat → Int → Int → Cd → (Int × Cd) ⊕ Int
  | 0, _, _, _, _ => .inr 0
  | d + 1, 0, o, p, c => (match sXp T n d 1 o p c with
    | .inr f => .inr f
    | .inl q => sXp T n d 3 o q.1 q.2)
  | d + 1, 1, o, p, c => (match sXp T n d 2 o p c with
    | .inr f => .inr f
    | .inl q => sXp T n d 4 o q.1 q.2)
  | d + 1, 2, o, p, c => if hd T n p = 91 then (if 6 ≤ o then .inr (-1000 * 5 - p) else (match sXp T n d 0 (o + 1) (p + 1) c with
      | .inr f => .inr f
      | .inl q => if hd T n q.1 = 93 then .inl (q.1 + 1, q.2) else .inr (-1000 * 1 - q.1)))
    else if 48 ≤ hd T n p ∧ hd T n p ≤ 57 then (match sNum T n 5 p with
      | .inr f => .inr f
      | .inl w => .inl (w.2, c ++ [(48, w.1)]))
    else if 0 ≤ pIdx (hd T n p) then .inl (p + 1, c ++ [(97, pIdx (hd T n p))]) else .inr (-1000 * 1 - p)
  | d + 1, 3, o, p, c => if hd T n p = 43 ∨ hd T n p = 45 then (match sXp T n d 1 o (p + 1) c with
      | .inr f => .inr f
      | .inl q => sXp T n d 3 o q.1 (q.2 ++ [(hd T n p, 0)])) else .inl (p, c)
  | d + 1, _, o, p, c => if hd T n p = 42 ∨ hd T n p = 47 ∨ hd T n p = 37 then (match sXp T n d 2 o (p + 1) c with
      | .inr f => .inr f
      | .inl q => sXp T n d 4 o q.1 (q.2 ++ [(hd T n p, 0)])) else .inl (p, c)
theorem sXp_0 {T : Nat → Int} {n o p : Int} {c : Cd} {d : Nat} : sXp T n (d + 1) 0 o p c = (match sXp T n d 1 o p c with
    | .inr f => .inr f
    | .inl q => sXp T n d 3 o q.1 q.2) := by rw [sXp]
theorem sXp_1 {T : Nat → Int} {n o p : Int} {c : Cd} {d : Nat} : sXp T n (d + 1) 1 o p c = (match sXp T n d 2 o p c with
    | .inr f => .inr f
    | .inl q => sXp T n d 4 o q.1 q.2) := by rw [sXp]
theorem sXp_2 {T : Nat → Int} {n o p : Int} {c : Cd} {d : Nat} : sXp T n (d + 1) 2 o p c = if hd T n p = 91 then (if 6 ≤ o then .inr (-1000 * 5 - p) else (match sXp T n d 0 (o + 1) (p + 1) c with
      | .inr f => .inr f
      | .inl q => if hd T n q.1 = 93 then .inl (q.1 + 1, q.2) else .inr (-1000 * 1 - q.1)))
    else if 48 ≤ hd T n p ∧ hd T n p ≤ 57 then (match sNum T n 5 p with
      | .inr f => .inr f
      | .inl w => .inl (w.2, c ++ [(48, w.1)]))
    else if 0 ≤ pIdx (hd T n p) then .inl (p + 1, c ++ [(97, pIdx (hd T n p))]) else .inr (-1000 * 1 - p) := by rw [sXp]
theorem sXp_3 {T : Nat → Int} {n o p : Int} {c : Cd} {d : Nat} : sXp T n (d + 1) 3 o p c = if hd T n p = 43 ∨ hd T n p = 45 then (match sXp T n d 1 o (p + 1) c with
      | .inr f => .inr f
      | .inl q => sXp T n d 3 o q.1 (q.2 ++ [(hd T n p, 0)])) else .inl (p, c) := by rw [sXp]
theorem sXp_4 {T : Nat → Int} {n o p : Int} {c : Cd} {d : Nat} : sXp T n (d + 1) 4 o p c = if hd T n p = 42 ∨ hd T n p = 47 ∨ hd T n p = 37 then (match sXp T n d 2 o (p + 1) c with
      | .inr f => .inr f
      | .inl q => sXp T n d 4 o q.1 (q.2 ++ [(hd T n p, 0)])) else .inl (p, c) := by
  rw [sXp]
  all_goals (intros; omega)
def CL (σ : pS) (c : Cd) : Prop := σ 57 8 = (c.length : Int) ∧ ∀ (i : Nat) (q : Int × Int), c[i]? = some q → σ 61 i = q.1 ∧ σ 62 i = q.2
def PL (k x : Nat) : Prop := k = 1 ∨ k = 61 ∨ k = 62 ∨ (k = 57 ∧ x = 8)
theorem CL.mv {σ σ' : pS} {c : Cd} (h : CL σ c) (e : CO σ σ') : CL σ' c := ⟨(e _ _ (by decide)).trans h.1, fun i q hq => by rw [e _ _ (by decide), e _ _ (by decide)]; exact h.2 i q hq⟩
theorem CO.pl {σ σ' : pS} (e : CO σ σ') : FR PL σ σ' := e.fr (fun x => Or.inl rfl)
theorem TP.fr {σ σ' : pS} {T : Nat → Int} {n p : Int} (h : TP σ T n p) (e : ∀ k x, k = 1 ∨ k = 2 → σ' k x = σ k x) : TP σ' T n p := by
  obtain ⟨a, b, c, d⟩ := h
  exact ⟨(e _ _ (by omega)).trans a, (e _ _ (by omega)).trans b, c, fun j hj => (e _ _ (by omega)).trans (d j hj)⟩
theorem c_add0 {σ : pS} {c : Cd} (h : CL σ c) (hl : c.length < 240) (s v : Int) : ∃ σ', f_Law_addStep_57 s v σ = some ((c.length : Int), σ') ∧ CL σ' (c ++ [(s, v)]) ∧ (∀ k x, k = 1 ∨ k = 2 → σ' k x = σ k x) ∧ FR PL σ σ' := by
  obtain ⟨h1, h2⟩ := h
  have hi : 0 ≤ (c.length : Int) ∧ (c.length : Int) < 240 := by omega
  refine ⟨pU (pU (pU σ 61 c.length s) 62 c.length v) 57 8 ((c.length : Int) + 1), ?_, ⟨?_, fun i q hq => ?_⟩, ?_, ?_⟩
  · unfold f_Law_addStep_57
    rw [h1, if_pos hi.2, if_pos hi, if_pos hi, pw_id (z := (c.length : Int) + 1) (by omega) (by omega), pw_id (by omega) (by omega), Int.toNat_natCast, show (c.length : Int) + 1 - 1 = (c.length : Int) by omega]
  · rw [pU_s, List.length_append]
    simp
  · by_cases hic : i < c.length
    · rw [List.getElem?_append_left hic] at hq
      rw [pU_c _ _ _ _ (by decide), pU_c _ _ _ _ (by decide), pU_i _ _ _ _ (by omega), pU_c _ _ _ _ (by decide), pU_i _ _ _ _ (by omega), pU_c _ _ _ _ (by decide)]
      exact h2 i q hq
    · rw [List.getElem?_append_right (by omega)] at hq
      have e : i = c.length := by
        by_cases e : i = c.length
        · exact e
        · rw [List.getElem?_eq_none (by simp; omega)] at hq
          cases hq
      subst e
      rw [Nat.sub_self] at hq
      cases hq
      rw [pU_c _ _ _ _ (by decide), pU_c _ _ _ _ (by decide), pU_s, pU_c _ _ _ _ (by decide), pU_s]
      exact ⟨rfl, rfl⟩
  · exact fun k x hk => (pU_c _ _ _ _ (by omega)).trans ((pU_c _ _ _ _ (by omega)).trans (pU_c _ _ _ _ (by omega)))
  · exact ((FR.u (Or.inr (Or.inl rfl))).tr (FR.u (Or.inr (Or.inr (Or.inl rfl))))).tr (FR.u (Or.inr (Or.inr (Or.inr ⟨rfl, rfl⟩))))
theorem c_add {σ : pS} {c : Cd} {T : Nat → Int} {n p : Int} (h : CL σ c) (hP : TP σ T n p) (hl : c.length < 240) (s v : Int) : ∃ σ', f_Law_addStep_57 s v σ = some ((c.length : Int), σ') ∧ CL σ' (c ++ [(s, v)]) ∧ TP σ' T n p ∧ FR PL σ σ' := by
  obtain ⟨σ', a, b, c, d⟩ := c_add0 h hl s v
  exact ⟨σ', a, b, hP.fr c, d⟩
theorem c_opn {σ : pS} {T : Nat → Int} {n p o : Int} (hP : TP σ T n p) (hp : p < n) : f_Law_opens_1 o σ = if o < 6 then some (1, pU σ 1 3 (p + 1)) else some (0, pU σ 1 4 (-1000 * 5 - p)) := by
  unfold f_Law_opens_1
  by_cases h : o < 6
  · rw [if_pos h, if_pos h, (c_step hP hp).1]
    rfl
  · rw [if_neg h, if_neg h, c_fail hP (by omega)]
    rfl
theorem c_one {σ : pS} {a b c d : Int} : f_Law_isOneOf a b c d σ = some (if a = b ∨ a = c ∨ a = d then 1 else 0, σ) := by
  unfold f_Law_isOneOf
  by_cases h1 : a = b
  · rw [if_pos h1, if_pos (Or.inl h1)]
  · by_cases h2 : a = c
    · rw [if_neg h1, if_pos h2, if_pos (Or.inr (Or.inl h2))]
    · by_cases h3 : a = d
      · rw [if_neg h1, if_neg h2, if_pos h3, if_pos (Or.inr (Or.inr h3))]
      · rw [if_neg h1, if_neg h2, if_neg h3, if_neg (by omega)]
/-- what a reader's end must be: it goes on to lb at least, and leaves s places of room -/
def cEnd (T : Nat → Int) (n : Int) (σ : pS) (F : Option (Int × pS)) (r : (Int × Cd) ⊕ Int) (lb s : Int) : Prop := match r with
  | .inl q => ∃ σ', F = some (1, σ') ∧ TP σ' T n q.1 ∧ CL σ' q.2 ∧ FR PL σ σ' ∧ (q.2.length : Int) + s ≤ q.1 ∧ lb ≤ q.1
  | .inr f => ∃ σ', F = some (0, σ') ∧ σ' 1 4 = f ∧ FR PL σ σ'
theorem cEnd.fr {T : Nat → Int} {n : Int} {σ σ1 : pS} {F : Option (Int × pS)} {r : (Int × Cd) ⊕ Int} {p p1 s : Int} (h : cEnd T n σ1 F r p1 s) (hF : FR PL σ σ1) (hp : p ≤ p1) : cEnd T n σ F r p s := by
  cases r with
  | inr f =>
    obtain ⟨σ', a, b, c⟩ := h
    exact ⟨σ', a, b, hF.tr c⟩
  | inl q =>
    obtain ⟨σ', a, b, c, d, e, g⟩ := h
    exact ⟨σ', a, b, c, hF.tr d, e, by omega⟩
theorem pIdx_in {T : Nat → Int} {n p : Int} (h : 0 ≤ pIdx (hd T n p)) : p < n := by
  refine hd_in (T := T) (fun e => ?_)
  rw [e] at h
  exact absurd h (by decide)
def rnk (w : Nat) : Int := match w with
  | 0 => 3
  | 1 => 2
  | _ => 1
theorem c_sum {T : Nat → Int} {n : Int} (hT : TB T n) : ∀ (d w : Nat) (o p : Int) (c : Cd) (σ : pS) (s : Int), w ≤ 4 → TP σ T n p → CL σ c → 0 ≤ s → (c.length : Int) + s ≤ p → 0 ≤ o → o ≤ 6 → 4 * (n - p) + rnk w < d →
    (w ≤ 2 → ∀ g : Nat, 3 * (6 - o) + (2 - (w : Int)) < g → cEnd T n σ (rdS g w o σ) (sXp T n d w o p c) (p + 1) s) ∧
    (w = 3 → ∀ (g fu : Nat) (k : Int), 3 * (6 - o) + 1 < g → 0 ≤ k → k < p → 241 - k < fu → cEnd T n σ (f_Law_readSum_57_1_p13 (rdS g) fu o k σ) (sXp T n d w o p c) p s) ∧
    (w = 4 → ∀ (g fu : Nat) (k : Int), 3 * (6 - o) < g → 0 ≤ k → k < p → 241 - k < fu → cEnd T n σ (f_Law_readProduct_57_1_p13 (rdS g) fu o k σ) (sXp T n d w o p c) p s) := by
  intro d
  induction d with
  | zero =>
    intro w o p c σ s hw hP hC hs hl ho1 ho2 hd9
    have := hP.2.2.1
    exfalso
    have : 1 ≤ rnk w := by unfold rnk; split <;> decide
    omega
  | succ d ih =>
    intro w o p c σ s hw hP hC hs hl ho1 ho2 hd9
    have hPb := hP.2.2.1
    match w, hw, hd9 with
    | 0, _, hd9 =>
      refine ⟨fun _ g hg => ?_, fun h => absurd h (by decide), fun h => absurd h (by decide)⟩
      obtain ⟨g, rfl⟩ : ∃ k, g = k + 1 := ⟨g - 1, by omega⟩
      have hd9 : 4 * (n - p) + 3 < ((d + 1 : Nat) : Int) := hd9
      have h1 := (ih 1 o p c σ s (by decide) hP hC hs hl ho1 ho2 (by show 4 * (n - p) + 2 < _; omega)).1 (by decide) g (by omega)
      rw [sXp_0]
      have e : rdS (g + 1) 0 o σ = f_Law_readSum_57_1 (rdS g) o σ := by
        rw [rdS]
        all_goals decide
      rw [e]
      unfold f_Law_readSum_57_1
      cases hr : sXp T n d 1 o p c with
      | inr f =>
        rw [hr] at h1
        obtain ⟨σ1, a1, b1, c1⟩ := h1
        rw [a1, Option.bind_some]
        exact ⟨σ1, rfl, b1, c1⟩
      | inl q =>
        rw [hr] at h1
        obtain ⟨σ1, a1, b1, c1, d1, e1, f1⟩ := h1
        rw [a1, Option.bind_some]
        dsimp only
        rw [if_neg (by decide)]
        have hPb1 := b1.2.2.1
        exact ((ih 3 o q.1 q.2 σ1 s (by decide) b1 c1 hs e1 ho1 ho2 (by show 4 * (n - q.1) + 1 < _; omega)).2.1 rfl g 4096 0 (by omega) (Int.le_refl _) (by omega) (by omega)).fr d1 f1
    | 1, _, hd9 =>
      refine ⟨fun _ g hg => ?_, fun h => absurd h (by decide), fun h => absurd h (by decide)⟩
      obtain ⟨g, rfl⟩ : ∃ k, g = k + 1 := ⟨g - 1, by omega⟩
      have hd9 : 4 * (n - p) + 2 < ((d + 1 : Nat) : Int) := hd9
      have h1 := (ih 2 o p c σ s (by decide) hP hC hs hl ho1 ho2 (by show 4 * (n - p) + 1 < _; omega)).1 (by decide) g (by omega)
      rw [sXp_1]
      have e : rdS (g + 1) 1 o σ = f_Law_readProduct_57_1 (rdS g) o σ := by
        rw [rdS]
        all_goals decide
      rw [e]
      unfold f_Law_readProduct_57_1
      cases hr : sXp T n d 2 o p c with
      | inr f =>
        rw [hr] at h1
        obtain ⟨σ1, a1, b1, c1⟩ := h1
        rw [a1, Option.bind_some]
        exact ⟨σ1, rfl, b1, c1⟩
      | inl q =>
        rw [hr] at h1
        obtain ⟨σ1, a1, b1, c1, d1, e1, f1⟩ := h1
        rw [a1, Option.bind_some]
        dsimp only
        rw [if_neg (by decide)]
        have hPb1 := b1.2.2.1
        exact ((ih 4 o q.1 q.2 σ1 s (by decide) b1 c1 hs e1 ho1 ho2 (by show 4 * (n - q.1) + 1 < _; omega)).2.2 rfl g 4096 0 (by omega) (Int.le_refl _) (by omega) (by omega)).fr d1 f1
    | 2, _, hd9 =>
      refine ⟨fun _ g hg => ?_, fun h => absurd h (by decide), fun h => absurd h (by decide)⟩
      obtain ⟨g, rfl⟩ : ∃ k, g = k + 1 := ⟨g - 1, by omega⟩
      have hd9 : 4 * (n - p) + 1 < ((d + 1 : Nat) : Int) := hd9
      have hr := hd_rng hT (p := p) hPb.1
      rw [sXp_2]
      have e : rdS (g + 1) 2 o σ = f_Law_readFactor_57_1 (rdS g) o σ := by
        rw [rdS]
        all_goals decide
      rw [e]
      unfold f_Law_readFactor_57_1
      rw [c_sign hP, Option.bind_some]
      dsimp only
      by_cases h91 : hd T n p = 91
      · have hp : p < n := hd_in (T := T) (by omega)
        rw [if_pos h91, if_pos h91, c_opn hP hp]
        by_cases ho : 6 ≤ o
        · rw [if_neg (by omega), if_pos ho, Option.bind_some]
          exact ⟨pU σ 1 4 (-1000 * 5 - p), rfl, pU_s _ _ _ _, FR.u (Or.inl rfl)⟩
        · rw [if_pos (by omega), if_neg ho, Option.bind_some]
          dsimp only
          rw [if_neg (by decide), pw_id (by omega) (by omega)]
          have h1 := (ih 0 (o + 1) (p + 1) c (pU σ 1 3 (p + 1)) s (by decide) (hP.go (by omega) (by omega)) (hC.mv (CO.u _ _)) hs (by omega) (by omega) (by omega) (by show 4 * (n - (p + 1)) + 3 < _; omega)).1 (by decide) g (by omega)
          cases hr2 : sXp T n d 0 (o + 1) (p + 1) c with
          | inr f =>
            rw [hr2] at h1
            obtain ⟨σ1, a1, b1, c1⟩ := h1
            rw [a1, Option.bind_some]
            exact ⟨σ1, rfl, b1, FR.tr (FR.u (Or.inl rfl)) c1⟩
          | inl q =>
            rw [hr2] at h1
            obtain ⟨σ1, a1, b1, c1, d1, e1, f1⟩ := h1
            rw [a1, Option.bind_some]
            dsimp only
            rw [if_neg (by decide)]
            have hPb1 := b1.2.2.1
            by_cases h93 : hd T n q.1 = 93
            · obtain ⟨σ2, a2, b2, c2⟩ := c_acc1 b1 h93 (by decide)
              rw [if_pos h93, a2, Option.bind_some]
              dsimp only
              rw [if_neg (by decide)]
              have hd1 : FR PL σ σ2 := (FR.tr (FR.u (Or.inl rfl)) d1).tr c2.pl
              exact ⟨σ2, rfl, b2, c1.mv c2, hd1, by dsimp only; omega, by dsimp only; omega⟩
            · obtain ⟨σ2, a2, b2, c2⟩ := c_acc0 b1 h93
              rw [if_neg h93, a2, Option.bind_some]
              have hd1 : FR PL σ σ2 := (FR.tr (FR.u (Or.inl rfl)) d1).tr c2.pl
              exact ⟨σ2, rfl, b2, hd1⟩
      · rw [if_neg h91, if_neg h91, c_dig hP, Option.bind_some]
        dsimp only
        by_cases hg : 48 ≤ hd T n p ∧ hd T n p ≤ 57
        · rw [if_pos hg, if_neg (by decide), if_pos hg]
          have h1 := c_num (m := 5) (by omega) (by omega) hP
          cases hr2 : sNum T n 5 p with
          | inr f =>
            rw [hr2] at h1
            obtain ⟨σ1, a1, b1, c1⟩ := h1
            have a1 : f_Tape_readDigits_1 5 σ = some (-1, σ1) := a1
            rw [a1, Option.bind_some]
            dsimp only
            have hlt : p < n := hd_in (T := T) (by omega)
            obtain ⟨σ2, a2, b2, c2, d2⟩ := c_add0 (hC.mv c1) (by omega) 48 (-1)
            rw [a2, Option.bind_some]
            exact ⟨σ2, rfl, (c2 _ _ (Or.inl rfl)).trans b1, c1.pl.tr d2⟩
          | inl w =>
            rw [hr2] at h1
            obtain ⟨σ1, a1, b1, c1, d1, e1⟩ := h1
            have a1 : f_Tape_readDigits_1 5 σ = some (w.1, σ1) := a1
            have hgt := sNum_gt (by decide) hr2
            have hPb1 := b1.2.2.1
            try dsimp only at d1
            rw [a1, Option.bind_some]
            dsimp only
            obtain ⟨σ2, a2, b2, c2, d2⟩ := c_add (hC.mv c1) b1 (by omega) 48 w.1
            rw [a2, Option.bind_some]
            dsimp only
            rw [if_neg (by omega)]
            exact ⟨σ2, rfl, c2, b2, c1.pl.tr d2, by rw [List.length_append]; simp; omega, by dsimp only; omega⟩
        · rw [if_neg hg, if_pos rfl, if_neg hg]
          by_cases hi : 0 ≤ pIdx (hd T n p)
          · have hp := pIdx_in hi
            have hne : hd T n p ≠ -1 := fun e => by rw [e] at hi; exact absurd hi (by decide)
            rw [if_pos hi, if_neg hne, if_pos (by omega)]
            unfold f_Law_readFactor_57_1_p96
            obtain ⟨hs1, hs2⟩ := c_step hP hp
            rw [if_pos hi, hs1, Option.bind_some]
            dsimp only
            obtain ⟨σ2, a2, b2, c2, d2⟩ := c_add (hC.mv (CO.u _ _)) hs2 (by omega) 97 (pIdx (hd T n p))
            rw [a2, Option.bind_some]
            have hd1 : FR PL σ σ2 := FR.tr (FR.u (Or.inl rfl)) d2
            exact ⟨σ2, rfl, c2, b2, hd1, by rw [List.length_append]; simp; omega, Int.le_refl _⟩
          · rw [if_neg hi]
            have e9 : ∀ z, z < 0 → f_Law_readFactor_57_1_p96 (rdS g) z σ = some (0, pU σ 1 4 (-1000 * 1 - p)) := by
              intro z hz
              unfold f_Law_readFactor_57_1_p96
              rw [if_neg (by omega), c_fail hP (by omega)]
              rfl
            by_cases hm : hd T n p = -1
            · rw [if_pos hm, e9 _ (by decide)]
              exact ⟨_, rfl, pU_s _ _ _ _, FR.u (Or.inl rfl)⟩
            · rw [if_neg hm, if_pos (by omega), e9 _ (by omega)]
              exact ⟨_, rfl, pU_s _ _ _ _, FR.u (Or.inl rfl)⟩
    | 3, _, hd9 =>
      refine ⟨fun h => absurd h (by decide), fun _ g fu k hg hk0 hk hfu => ?_, fun h => absurd h (by decide)⟩
      obtain ⟨fu, rfl⟩ : ∃ k, fu = k + 1 := ⟨fu - 1, by omega⟩
      have hd9 : 4 * (n - p) + 1 < ((d + 1 : Nat) : Int) := hd9
      rw [sXp_3, f_Law_readSum_57_1_p13, if_neg (by omega), c_sign hP, Option.bind_some]
      dsimp only
      rw [c_one, Option.bind_some]
      dsimp only
      by_cases hc : hd T n p = 43 ∨ hd T n p = 45
      · have hp : p < n := hd_in (T := T) (by omega)
        obtain ⟨hs1, hs2⟩ := c_step hP hp
        rw [if_pos (show hd T n p = 43 ∨ hd T n p = 45 ∨ hd T n p = 45 by omega), if_neg (by decide), if_pos hc, c_sign hP, Option.bind_some]
        dsimp only
        rw [hs1, Option.bind_some]
        dsimp only
        have h1 := (ih 1 o (p + 1) c (pU σ 1 3 (p + 1)) (s + 1) (by decide) hs2 (hC.mv (CO.u _ _)) (by omega) (by omega) ho1 ho2 (by show 4 * (n - (p + 1)) + 2 < _; omega)).1 (by decide) g (by omega)
        cases hr2 : sXp T n d 1 o (p + 1) c with
        | inr f =>
          rw [hr2] at h1
          obtain ⟨σ1, a1, b1, c1⟩ := h1
          rw [a1, Option.bind_some]
          exact ⟨σ1, rfl, b1, FR.tr (FR.u (Or.inl rfl)) c1⟩
        | inl q =>
          rw [hr2] at h1
          obtain ⟨σ1, a1, b1, c1, d1, e1, f1⟩ := h1
          rw [a1, Option.bind_some]
          dsimp only
          rw [if_neg (by decide)]
          have hPb1 := b1.2.2.1
          obtain ⟨σ2, a2, b2, c2, d2⟩ := c_add c1 b1 (by omega) (hd T n p) 0
          rw [a2, Option.bind_some]
          dsimp only
          rw [pw_id (by omega) (by omega)]
          have hd1 : FR PL σ σ2 := (FR.tr (FR.u (Or.inl rfl)) d1).tr d2
          exact ((ih 3 o q.1 (q.2 ++ [(hd T n p, 0)]) σ2 s (by decide) c2 b2 hs (by rw [List.length_append]; simp; omega) ho1 ho2 (by show 4 * (n - q.1) + 1 < _; omega)).2.1 rfl g fu (k + 1) hg (by omega) (by omega) (by omega)).fr hd1 (by omega)
      · rw [if_neg (show ¬ (hd T n p = 43 ∨ hd T n p = 45 ∨ hd T n p = 45) by omega), if_pos rfl, if_neg hc]
        exact ⟨σ, rfl, hP, hC, FR.rf _ _, hl, Int.le_refl _⟩
    | 4, _, hd9 =>
      refine ⟨fun h => absurd h (by decide), fun h => absurd h (by decide), fun _ g fu k hg hk0 hk hfu => ?_⟩
      obtain ⟨fu, rfl⟩ : ∃ k, fu = k + 1 := ⟨fu - 1, by omega⟩
      have hd9 : 4 * (n - p) + 1 < ((d + 1 : Nat) : Int) := hd9
      rw [sXp_4, f_Law_readProduct_57_1_p13, if_neg (by omega), c_sign hP, Option.bind_some]
      dsimp only
      rw [c_one, Option.bind_some]
      dsimp only
      by_cases hc : hd T n p = 42 ∨ hd T n p = 47 ∨ hd T n p = 37
      · have hp : p < n := hd_in (T := T) (by omega)
        obtain ⟨hs1, hs2⟩ := c_step hP hp
        rw [if_pos hc, if_neg (by decide), if_pos hc, c_sign hP, Option.bind_some]
        dsimp only
        rw [hs1, Option.bind_some]
        dsimp only
        have h1 := (ih 2 o (p + 1) c (pU σ 1 3 (p + 1)) (s + 1) (by decide) hs2 (hC.mv (CO.u _ _)) (by omega) (by omega) ho1 ho2 (by show 4 * (n - (p + 1)) + 1 < _; omega)).1 (by decide) g (by omega)
        cases hr2 : sXp T n d 2 o (p + 1) c with
        | inr f =>
          rw [hr2] at h1
          obtain ⟨σ1, a1, b1, c1⟩ := h1
          rw [a1, Option.bind_some]
          exact ⟨σ1, rfl, b1, FR.tr (FR.u (Or.inl rfl)) c1⟩
        | inl q =>
          rw [hr2] at h1
          obtain ⟨σ1, a1, b1, c1, d1, e1, f1⟩ := h1
          rw [a1, Option.bind_some]
          dsimp only
          rw [if_neg (by decide)]
          have hPb1 := b1.2.2.1
          obtain ⟨σ2, a2, b2, c2, d2⟩ := c_add c1 b1 (by omega) (hd T n p) 0
          rw [a2, Option.bind_some]
          dsimp only
          rw [pw_id (by omega) (by omega)]
          have hd1 : FR PL σ σ2 := (FR.tr (FR.u (Or.inl rfl)) d1).tr d2
          exact ((ih 4 o q.1 (q.2 ++ [(hd T n p, 0)]) σ2 s (by decide) c2 b2 hs (by rw [List.length_append]; simp; omega) ho1 ho2 (by show 4 * (n - q.1) + 1 < _; omega)).2.2 rfl g fu (k + 1) hg (by omega) (by omega) (by omega)).fr hd1 (by omega)
      · rw [if_neg hc, if_pos rfl, if_neg hc]
        exact ⟨σ, rfl, hP, hC, FR.rf _ _, hl, Int.le_refl _⟩
theorem pOf {a : Int} (h1 : -2147483648 ≤ a) (h2 : a < 2147483648) : (Int32.ofInt a).toInt = a := by
  rw [Int32.toInt_ofInt]
  exact pw_id h1 h2
theorem pDiv_eq {a b : Int} (h1 : -2147483648 ≤ a) (h2 : a < 2147483648) (h3 : 0 < b) (h4 : b < 2147483648) : pDiv a b = a.tdiv b := by
  unfold pDiv pO
  have e1 := pOf h1 h2
  have e2 := pOf (a := b) (by omega) h4
  rw [fb_td (by omega), e1, e2]
theorem pRem_eq {a b : Int} (h1 : -2147483648 ≤ a) (h2 : a < 2147483648) (h3 : 0 < b) (h4 : b < 2147483648) : pRem a b = a.tmod b := by
  unfold pRem pO
  have e1 := pOf h1 h2
  have e2 := pOf (a := b) (by omega) h4
  rw [fb_tm (by omega), e1, e2]
theorem unit_div {op v : Int} (h1 : 0 ≤ op ∧ op ≤ 14) (h2 : 0 ≤ v ∧ v < 1048576) : pDiv (1048576 * op + v) 1048576 = op := by
  rw [pDiv_eq (by omega) (by omega) (by decide) (by decide), Int.tdiv_eq_ediv_of_nonneg (by omega)]
  omega
theorem unit_rem {op v : Int} (h1 : 0 ≤ op ∧ op ≤ 14) (h2 : 0 ≤ v ∧ v < 1048576) : pRem (1048576 * op + v) 1048576 = v := by
  rw [pRem_eq (by omega) (by omega) (by decide) (by decide), Int.tmod_eq_emod_of_nonneg (by omega)]
  omega
/-- a sign's number in the reference -/
def mop (s : Int) : Int := if s = 48 then 0 else if s = 97 then 1 else if s = 43 then 2 else if s = 45 then 3 else if s = 42 then 4 else if s = 47 then 5 else if s = 37 then 6 else if s = 60 then 7 else if s = 62 then 8 else if s = 61 then 9 else if s = 33 then 10 else if s = 38 then 11 else 12
theorem mop_r (s : Int) : 0 ≤ mop s ∧ mop s ≤ 12 := by
  unfold mop
  repeat' split
  all_goals decide
abbrev Ks : Type := List (Int × Int)
def ML (τ : pS) (c : Cd) : Prop := τ 84 24 = (c.length : Int) ∧ ∀ (i : Nat) (q : Int × Int), c[i]? = some q → τ 97 i = 1048576 * mop q.1 + q.2 ∧ 0 ≤ q.2 ∧ q.2 < 1048576
def MS (τ : pS) (K : Ks) : Prop := τ 84 25 = (K.length : Int) ∧ ∀ (i : Nat) (q : Int × Int), K[i]? = some q → τ 98 i = 1048576 * q.1 + q.2 ∧ (0 ≤ q.1 ∧ q.1 ≤ 14) ∧ 0 ≤ q.2 ∧ q.2 < 1048576
def ST (τ : pS) (T : Nat → Int) (n p : Int) (c : Cd) (K : Ks) (o : Int) : Prop := TM τ T n p ∧ ML τ c ∧ MS τ K ∧ τ 84 23 = o
def QL (k x : Nat) : Prop := (k = 84 ∧ (x = 19 ∨ x = 21 ∨ x = 22 ∨ x = 23 ∨ x = 24 ∨ x = 25)) ∨ k = 97 ∨ k = 98
theorem MO.ql {a b : pS} (h : MO a b) : FR QL a b := h.fr (Or.inl (by decide)) (Or.inl (by decide)) (Or.inl (by decide))
section MP
variable {T : Nat → Int} {n p o : Int} {c : Cd} {K : Ks} {τ : pS}
theorem ST.mo {τ' : pS} {q : Int} (h : ST τ T n p c K o) (hM : TM τ' T n q) (e : MO τ τ') : ST τ' T n q c K o := by
  obtain ⟨h1, ⟨h2, h3⟩, ⟨h4, h5⟩, h6⟩ := h
  refine ⟨hM, ⟨(e.2 _ (by decide) (by decide) (by decide)).trans h2, fun i q hq => by rw [e.1 _ _ (by decide)]; exact h3 i q hq⟩, ⟨(e.2 _ (by decide) (by decide) (by decide)).trans h4, fun i q hq => by rw [e.1 _ _ (by decide)]; exact h5 i q hq⟩, (e.2 _ (by decide) (by decide) (by decide)).trans h6⟩
theorem ST.nx (h : ST τ T n p c K o) {q : Int} (h0 : 0 ≤ q) (h1 : q ≤ n) : ST (pU τ 84 19 q) T n q c K o := h.mo (h.1.at (pU_s _ _ _ _) (pU_i _ _ _ _ (by decide)) (fun i => pU_c _ _ _ _ (by decide)) h0 h1) (MO.u _ (Or.inl rfl))
theorem m_note (h : ST τ T n p c K o) (hl : c.length < 260) {op s v : Int} (hs : mop s = op) (hv : 0 ≤ v ∧ v < 1048576) : ∃ τ', f_M_notes_84 op v τ = some (0, τ') ∧ ST τ' T n p (c ++ [(s, v)]) K o ∧ FR QL τ τ' := by
  obtain ⟨h1, ⟨h2, h3⟩, ⟨h4, h5⟩, h6⟩ := h
  have hr := mop_r s
  have hi : 0 ≤ (c.length : Int) ∧ (c.length : Int) < 260 := by omega
  refine ⟨pU (pU τ 97 c.length (1048576 * op + v)) 84 24 ((c.length : Int) + 1), ?_, ⟨?_, ⟨?_, fun i q hq => ?_⟩, ⟨?_, fun i q hq => ?_⟩, ?_⟩, ?_⟩
  · unfold f_M_notes_84
    rw [h2, if_pos hi, pw_id (z := 1048576 * op) (by omega) (by omega), pw_id (z := 1048576 * op + v) (by omega) (by omega), pw_id (z := (c.length : Int) + 1) (by omega) (by omega), Int.toNat_natCast]
  · exact h1.at ((pU_i _ _ _ _ (by decide)).trans ((pU_c _ _ _ _ (by decide)).trans h1.1)) ((pU_i _ _ _ _ (by decide)).trans (pU_c _ _ _ _ (by decide))) (fun i => (pU_c _ _ _ _ (by decide)).trans (pU_c _ _ _ _ (by decide))) h1.2.2.1.1 h1.2.2.1.2.1
  · rw [pU_s, List.length_append]
    simp
  · rw [pU_c _ _ _ _ (by decide)]
    by_cases hic : i < c.length
    · rw [List.getElem?_append_left hic] at hq
      rw [pU_i _ _ _ _ (by omega)]
      exact h3 i q hq
    · rw [List.getElem?_append_right (by omega)] at hq
      have e : i = c.length := by
        by_cases e : i = c.length
        · exact e
        · rw [List.getElem?_eq_none (by simp; omega)] at hq
          cases hq
      subst e
      rw [Nat.sub_self] at hq
      cases hq
      rw [pU_s, hs]
      exact ⟨rfl, hv⟩
  · exact (pU_i _ _ _ _ (by decide)).trans ((pU_c _ _ _ _ (by decide)).trans h4)
  · rw [pU_c _ _ _ _ (by decide), pU_c _ _ _ _ (by decide)]
    exact h5 i q hq
  · exact (pU_i _ _ _ _ (by decide)).trans ((pU_c _ _ _ _ (by decide)).trans h6)
  · exact (FR.u (Or.inr (Or.inl rfl))).tr (FR.u (Or.inl ⟨rfl, by decide⟩))
/-- the stack's top: -1 where there is none -/
def tp (K : Ks) : Int := match K.getLast? with
  | some q => q.1
  | none => -1
theorem tp_s (K : Ks) (q : Int × Int) : tp (K ++ [q]) = q.1 := by
  unfold tp
  rw [List.getLast?_concat]
theorem MS.last {τ : pS} {K : Ks} {q : Int × Int} (h : MS τ (K ++ [q])) : τ 84 25 = (K.length : Int) + 1 ∧ τ 98 K.length = 1048576 * q.1 + q.2 ∧ (0 ≤ q.1 ∧ q.1 ≤ 14) ∧ 0 ≤ q.2 ∧ q.2 < 1048576 := by
  obtain ⟨h1, h2⟩ := h
  refine ⟨by rw [h1, List.length_append]; simp, h2 K.length q ?_⟩
  rw [List.getElem?_append_right (Nat.le_refl _), Nat.sub_self]
  rfl
theorem m_top (h : MS τ K) (hl : K.length ≤ 260) : f_M_waitTop_84 τ = some (tp K, τ) := by
  unfold f_M_waitTop_84
  rcases List.eq_nil_or_concat K with rfl | ⟨K1, q, rfl⟩
  · rw [if_pos (show τ 84 25 = 0 from h.1)]
    rfl
  · rw [List.concat_eq_append] at h hl ⊢
    obtain ⟨h1, h2, h3, h4⟩ := h.last
    rw [List.length_append, List.length_singleton] at hl
    rw [tp_s, h1, if_neg (by omega), pw_id (by omega) (by omega), show (K1.length : Int) + 1 - 1 = (K1.length : Int) by omega, if_pos (by omega), Int.toNat_natCast, h2, unit_div h3 h4]
theorem MS.pop {τ τ' : pS} {K : Ks} {q : Int × Int} (h : MS τ (K ++ [q])) (e1 : τ' 84 25 = τ 84 25 - 1) (e2 : ∀ i, τ' 98 i = τ 98 i) : MS τ' K := by
  refine ⟨by rw [e1, h.last.1]; omega, fun i r hr => ?_⟩
  rw [e2]
  have hi := (List.getElem?_eq_some_iff.mp hr).1
  exact h.2 i r (by rw [List.getElem?_append_left hi]; exact hr)
theorem MS.push {τ τ' : pS} {K : Ks} (h : MS τ K) {a b : Int} (ha : 0 ≤ a ∧ a ≤ 14) (hb : 0 ≤ b ∧ b < 1048576) (e1 : τ' 84 25 = (K.length : Int) + 1) (e2 : τ' 98 K.length = 1048576 * a + b) (e3 : ∀ i, i ≠ K.length → τ' 98 i = τ 98 i) : MS τ' (K ++ [(a, b)]) := by
  refine ⟨by rw [e1, List.length_append]; simp, fun i q hq => ?_⟩
  by_cases hic : i < K.length
  · rw [List.getElem?_append_left hic] at hq
    rw [e3 i (by omega)]
    exact h.2 i q hq
  · rw [List.getElem?_append_right (by omega)] at hq
    have e : i = K.length := by
      by_cases e : i = K.length
      · exact e
      · rw [List.getElem?_eq_none (by simp; omega)] at hq
        cases hq
    subst e
    rw [Nat.sub_self] at hq
    cases hq
    exact ⟨e2, ha, hb⟩
theorem m_opn (h : ST τ T n p c K o) (hp : p < n) (hl : K.length < 260) (ho : 0 ≤ o ∧ o ≤ 6) {a : Int} (ha : 0 ≤ a ∧ a ≤ 14) : (o = 6 → ∃ τ', f_M_opens_84 a τ = some (0, τ') ∧ τ' 84 21 = -1000 * 5 - p ∧ FR QL τ τ') ∧ (o ≠ 6 → ∃ τ', f_M_opens_84 a τ = some (1, τ') ∧ ST τ' T n (p + 1) c (K ++ [(a, 0)]) (o + 1) ∧ FR QL τ τ') := by
  obtain ⟨h1, ⟨h2, h3⟩, hK, h6⟩ := h
  have hb := h1.2.2.1
  refine ⟨fun he => ?_, fun he => ?_⟩
  · refine ⟨pU τ 84 21 (-1000 * 5 - p), ?_, pU_s _ _ _ _, FR.u (Or.inl ⟨rfl, by decide⟩)⟩
    unfold f_M_opens_84
    rw [if_pos (h6.trans he), h1.1, m_wrong (by omega) (by omega)]
    rfl
  · refine ⟨pU (pU (pU (pU τ 84 23 (o + 1)) 98 K.length (1048576 * a)) 84 25 ((K.length : Int) + 1)) 84 19 (p + 1), ?_, ⟨?_, ⟨?_, fun i q hq => ?_⟩, ?_, ?_⟩, ?_⟩
    · unfold f_M_opens_84
      rw [if_neg (fun e => he (h6.symm.trans e)), hK.1, if_pos (by omega), h6, h1.1, pw_id (z := o + 1) (by omega) (by omega), pw_id (z := 1048576 * a) (by omega) (by omega), pw_id (z := (K.length : Int) + 1) (by omega) (by omega), pw_id (z := p + 1) (by omega) (by omega), Int.toNat_natCast]
    · exact h1.at (pU_s _ _ _ _) (by simp [pU]) (fun i => by simp [pU]) (by omega) (by omega)
    · simp [pU, h2]
    · rw [show pU (pU (pU (pU τ 84 23 (o + 1)) 98 K.length (1048576 * a)) 84 25 ((K.length : Int) + 1)) 84 19 (p + 1) 97 i = τ 97 i by simp [pU]]
      exact h3 i q hq
    · exact hK.push ha (by omega) (by simp [pU]) (by simp [pU]) (fun i hi => by simp [pU, hi])
    · simp [pU]
    · exact (((FR.u (Or.inl ⟨rfl, by decide⟩)).tr (FR.u (Or.inr (Or.inr rfl)))).tr (FR.u (Or.inl ⟨rfl, by decide⟩))).tr (FR.u (Or.inl ⟨rfl, by decide⟩))
/-- one pending sign is told -/
theorem m_37 {s : Int} {k0 : Int → pS → Option (Int × pS)} {all : Int} (h : ST τ T n p c (K ++ [(mop s, 0)]) o) (hl : K.length < 260) (hc : c.length < 260) : ∃ τ', f_M_closesSums_84_p37 k0 all τ = k0 all τ' ∧ ST τ' T n p (c ++ [(s, 0)]) K o ∧ FR QL τ τ' := by
  obtain ⟨τ1, a1, b1, c1⟩ := m_note h hc (op := mop s) (s := s) (v := 0) rfl (by omega)
  have h25 := b1.2.2.1.last.1
  refine ⟨pU τ1 84 25 (τ1 84 25 - 1), ?_, ⟨?_, ?_, ?_, ?_⟩, c1.tr (FR.u (Or.inl ⟨rfl, by decide⟩))⟩
  · unfold f_M_closesSums_84_p37
    rw [m_top h.2.2.1 (by rw [List.length_append]; simp; omega), Option.bind_some, tp_s]
    dsimp only
    rw [a1, Option.bind_some]
    dsimp only
    rw [pw_id (by omega) (by omega)]
  · exact b1.1.at ((pU_i _ _ _ _ (by decide)).trans b1.1.1) (pU_i _ _ _ _ (by decide)) (fun i => pU_c _ _ _ _ (by decide)) b1.1.2.2.1.1 b1.1.2.2.1.2.1
  · exact ⟨(pU_i _ _ _ _ (by decide)).trans b1.2.1.1, fun i q hq => by rw [pU_c _ _ _ _ (by decide)]; exact b1.2.1.2 i q hq⟩
  · exact b1.2.2.1.pop (pU_s _ _ _ _) (fun i => pU_c _ _ _ _ (by decide))
  · exact (pU_i _ _ _ _ (by decide)).trans b1.2.2.2
theorem m_cs1 {s all : Int} {fu : Nat} (h : ST τ T n p c (K ++ [(mop s, 0)]) o) (hl : K.length < 260) (hc : c.length < 260) (hs : (s = 42 ∨ s = 47 ∨ s = 37) ∨ ((s = 43 ∨ s = 45) ∧ all = 1)) : ∃ τ', f_M_closesSums_84_p0 (fu + 1) all τ = f_M_closesSums_84_p0 fu all τ' ∧ ST τ' T n p (c ++ [(s, 0)]) K o ∧ FR QL τ τ' := by
  have ht := m_top h.2.2.1 (by rw [List.length_append]; simp; omega)
  rw [tp_s] at ht
  obtain ⟨τ', a, b⟩ := m_37 (k0 := f_M_closesSums_84_p0 fu) (all := all) h hl hc
  refine ⟨τ', ?_, b⟩
  rw [f_M_closesSums_84_p0, ht, Option.bind_some]
  dsimp only
  rcases hs with hs | ⟨hs, rfl⟩
  · have hm : 4 ≤ mop s ∧ mop s ≤ 6 := by rcases hs with rfl | rfl | rfl <;> decide
    rw [if_neg (by omega), ht, Option.bind_some]
    dsimp only
    rw [if_pos hm.2, a]
  · unfold f_M_closesSums_84_p17
    rcases hs with rfl | rfl
    · have hm : mop 43 = 2 := by decide
      rw [if_pos (by rw [hm]; decide), if_neg (by decide), ht, Option.bind_some]
      dsimp only
      rw [if_pos hm, a]
    · have hm : mop 45 = 3 := by decide
      rw [if_pos (by rw [hm]; decide), if_neg (by decide), ht, Option.bind_some]
      dsimp only
      rw [if_neg (by rw [hm]; decide), ht, Option.bind_some]
      dsimp only
      rw [if_pos hm, a]
theorem m_cs0 {all : Int} {fu : Nat} (h : ST τ T n p c K o) (hl : K.length ≤ 260) (h1 : ¬ (4 ≤ tp K ∧ tp K ≤ 6)) (h2 : all = 0 ∨ (all = 1 ∧ tp K ≠ 2 ∧ tp K ≠ 3)) : f_M_closesSums_84_p0 (fu + 1) all τ = some (0, τ) := by
  have ht := m_top h.2.2.1 hl
  have e17 : ∀ k0, f_M_closesSums_84_p17 k0 all τ = some (0, τ) := by
    intro k0
    unfold f_M_closesSums_84_p17
    rcases h2 with rfl | ⟨rfl, h3, h4⟩
    · rw [if_pos rfl]
    · rw [if_neg (by decide), ht, Option.bind_some]
      dsimp only
      rw [if_neg h3, ht, Option.bind_some]
      dsimp only
      rw [if_neg h4]
  rw [f_M_closesSums_84_p0, ht, Option.bind_some]
  dsimp only
  by_cases h4 : tp K < 4
  · rw [if_pos h4, e17]
  · rw [if_neg h4, ht, Option.bind_some]
    dsimp only
    rw [if_neg (by omega), e17]
end MP
section NM5
variable {T : Nat → Int} {n : Int}
theorem m_nm5 : ∀ (r : Nat) (v p : Int) (τ : pS) (fu : Nat), TM τ T n p → r ≤ 5 → τ 84 22 = v → 0 ≤ v → (v + 1) * p10 r ≤ p10 5 → (5 : Int) - r ≤ p → r < fu →
    match nm T n r v p with
    | .inl q => ∃ τ', f_M_readsNumber_84_p10 fu (p - (5 - (r : Int))) τ = some (1, τ') ∧ TM τ' T n q.2 ∧ MO τ τ' ∧ τ' 84 22 = q.1
    | .inr f => ∃ τ', f_M_readsNumber_84_p10 fu (p - (5 - (r : Int))) τ = some (0, τ') ∧ τ' 84 21 = f ∧ MO τ τ' := by
  intro r
  induction r with
  | zero =>
    intro v p τ fu h hr hv h0 hb hp5 hfu
    obtain ⟨fu, rfl⟩ : ∃ k, fu = k + 1 := ⟨fu - 1, by omega⟩
    have h' := h
    obtain ⟨h1, h2, ⟨h3, h3', h5⟩, h6⟩ := h'
    unfold f_M_readsNumber_84_p10
    rw [m_dig h]
    simp only [Option.bind_some]
    by_cases hg : 48 ≤ hd T n p ∧ hd T n p ≤ 57
    · rw [nm_0t hg, if_pos hg]
      try dsimp only
      rw [if_neg (by decide), h1, pw_id (by omega) (by omega), if_pos (by omega), m_wrong (by omega) (by omega)]
      exact ⟨pU τ 84 21 (-1000 * 2 - p), rfl, pU_s _ _ _ _, MO.u _ (by omega)⟩
    · rw [nm_f hg, if_neg hg]
      try dsimp only
      rw [if_pos rfl]
      exact ⟨_, rfl, h, MO.rf _, hv⟩
  | succ r ih =>
    intro v p τ fu h hr hv h0 hb hp5 hfu
    obtain ⟨fu, rfl⟩ : ∃ k, fu = k + 1 := ⟨fu - 1, by omega⟩
    have hvm := p10_le h0 hb
    have hmm := p10_m (m := 5) (by omega)
    have h' := h
    obtain ⟨h1, h2, ⟨h3, h3', h5⟩, h6⟩ := h'
    unfold f_M_readsNumber_84_p10
    rw [m_dig h]
    simp only [Option.bind_some]
    by_cases hg : 48 ≤ hd T n p ∧ hd T n p ≤ 57
    · have hp : p < n := hd_in (T := T) (by omega)
      rw [nm_t hg, if_pos hg]
      try dsimp only
      rw [if_neg (by decide), h1, pw_id (z := p - (5 - ((r + 1 : Nat) : Int)) + 5) (by omega) (by omega), if_neg (by omega), m_here h]
      simp only [Option.bind_some]
      rw [h1, hv, pw_id (z := 10 * v) (by omega) (by omega), pw_id (z := 10 * v + hd T n p) (by omega) (by omega), pw_id (z := 10 * v + hd T n p - 48) (by omega) (by omega), pw_id (z := p + 1) (by omega) (by omega)]
      have hi := ih (10 * v + (hd T n p - 48)) (p + 1) (pU (pU τ 84 22 (10 * v + hd T n p - 48)) 84 19 (p + 1)) fu (h.at (pU_s _ _ _ _) ((pU_i _ _ _ _ (by decide)).trans (pU_i _ _ _ _ (by decide))) (fun i => (pU_c _ _ _ _ (by decide)).trans (pU_c _ _ _ _ (by decide))) (by omega) (by omega)) (by omega) (((pU_i _ _ _ _ (by decide)).trans (pU_s _ _ _ _)).trans (by omega)) (by omega) (p10_st (by omega) hb) (by omega) (by omega)
      rw [show p + 1 - (5 - (r : Int)) = p - (5 - ((r + 1 : Nat) : Int)) by omega] at hi
      have hM : MO τ (pU (pU τ 84 22 (10 * v + hd T n p - 48)) 84 19 (p + 1)) := (MO.u _ (by omega)).tr (MO.u _ (by omega))
      split at hi
      · obtain ⟨τ', a, b, c, d⟩ := hi
        exact ⟨τ', a, b, hM.tr c, d⟩
      · obtain ⟨τ', a, b, c⟩ := hi
        exact ⟨τ', a, b, hM.tr c⟩
    · rw [nm_f hg, if_neg hg]
      try dsimp only
      rw [if_pos rfl]
      exact ⟨_, rfl, h, MO.rf _, hv⟩
theorem nm_vv {m : Nat} : ∀ (r : Nat) (v p : Int) (q : Int × Int), nm T n r v p = .inl q → 0 ≤ v → (v + 1) * p10 r ≤ p10 m → 0 ≤ q.1 ∧ q.1 + 1 ≤ p10 m := by
  intro r
  induction r with
  | zero =>
    intro v p q h h0 hb
    by_cases hg : 48 ≤ hd T n p ∧ hd T n p ≤ 57
    · rw [nm_0t hg] at h
      cases h
    · rw [nm_f hg] at h
      cases h
      exact ⟨h0, p10_le h0 hb⟩
  | succ r ih =>
    intro v p q h h0 hb
    by_cases hg : 48 ≤ hd T n p ∧ hd T n p ≤ 57
    · rw [nm_t hg] at h
      exact ih _ _ _ h (by omega) (p10_st (by omega) hb)
    · rw [nm_f hg] at h
      cases h
      exact ⟨h0, p10_le h0 hb⟩
theorem m_num5 {τ : pS} {p : Int} (h : TM τ T n p) (hg : 48 ≤ hd T n p ∧ hd T n p ≤ 57) : match sNum T n 5 p with
    | .inl q => ∃ τ', f_M_readsNumber_84 τ = some (1, τ') ∧ TM τ' T n q.2 ∧ MO τ τ' ∧ τ' 84 22 = q.1 ∧ 0 ≤ q.1 ∧ q.1 < 100000
    | .inr f => ∃ τ', f_M_readsNumber_84 τ = some (0, τ') ∧ τ' 84 21 = f ∧ MO τ τ' := by
  have h' := h
  obtain ⟨h1, h2, ⟨h3, h3', h5⟩, h6⟩ := h'
  unfold sNum f_M_readsNumber_84
  rw [if_pos hg, h1]
  have hi := m_nm5 5 0 p (pU τ 84 22 0) 4096 (h.at ((pU_i _ _ _ _ (by decide)).trans h1) (pU_i _ _ _ _ (by decide)) (fun i => pU_c _ _ _ _ (by decide)) h3 h3') (Nat.le_refl _) (pU_s _ _ _ _) (Int.le_refl _) (by decide) (by omega) (by omega)
  rw [show p - (5 - ((5 : Nat) : Int)) = p by omega] at hi
  have hv := nm_vv (T := T) (n := n) (m := 5) 5 0 p
  cases hr : nm T n 5 0 p with
  | inl q =>
    rw [hr] at hi
    obtain ⟨τ', a, b, c, d⟩ := hi
    have h9 := hv q hr (Int.le_refl _) (by decide)
    have h8 := p10_m (m := 5) (by omega)
    exact ⟨τ', a, b, (MO.u _ (by omega)).tr c, d, h9.1, by omega⟩
  | inr f =>
    rw [hr] at hi
    obtain ⟨τ', a, b, c⟩ := hi
    exact ⟨τ', a, b, (MO.u _ (by omega)).tr c⟩
end NM5
theorem m_fact {a : Int} {σ : pS} : f_M_factOf a σ = some (pIdx a, σ) := by
  unfold f_M_factOf
  by_cases h : 99 ≤ a ∧ a ≤ 119
  · have : a = 99 ∨ a = 100 ∨ a = 101 ∨ a = 102 ∨ a = 103 ∨ a = 104 ∨ a = 105 ∨ a = 106 ∨ a = 107 ∨ a = 108 ∨ a = 109 ∨ a = 110 ∨ a = 111 ∨ a = 112 ∨ a = 113 ∨ a = 114 ∨ a = 115 ∨ a = 116 ∨ a = 117 ∨ a = 118 ∨ a = 119 := by omega
    rcases this with rfl | rfl | rfl | rfl | rfl | rfl | rfl | rfl | rfl | rfl | rfl | rfl | rfl | rfl | rfl | rfl | rfl | rfl | rfl | rfl | rfl
    all_goals rfl
  · unfold pIdx
    iterate 28 rw [if_neg (by omega)]
def isMul (x : Int) : Prop := x = 42 ∨ x = 47 ∨ x = 37
def isAdd (x : Int) : Prop := x = 43 ∨ x = 45
theorem m_sgn1 {a : Int} {σ : pS} (h : isMul a ∨ isAdd a) : f_M_sumSign a σ = some (mop a, σ) := by
  rcases h with (rfl | rfl | rfl) | (rfl | rfl)
  all_goals rfl
theorem m_sgn0 {a : Int} {σ : pS} (h1 : ¬ isMul a) (h2 : ¬ isAdd a) : f_M_sumSign a σ = some (-1, σ) := by
  unfold isMul at h1
  unfold isAdd at h2
  unfold f_M_sumSign
  iterate 5 rw [if_neg (by omega)]
def pk (X : List Int) : Ks := X.map (fun s => (mop s, 0))
def pe2 (X : List Int) : Cd := X.map (fun s => (s, 0))
def isA (X : List Int) : Prop := X = [] ∨ ∃ s, X = [s] ∧ isAdd s
def isM (X : List Int) : Prop := X = [] ∨ ∃ s, X = [s] ∧ isMul s
theorem isA.len {X : List Int} (h : isA X) : (pk X).length ≤ 1 ∧ (pe2 X).length ≤ 1 := by
  rcases h with rfl | ⟨s, rfl, _⟩ <;> exact ⟨by simp [pk], by simp [pe2]⟩
theorem isM.len {X : List Int} (h : isM X) : (pk X).length ≤ 1 ∧ (pe2 X).length ≤ 1 := by
  rcases h with rfl | ⟨s, rfl, _⟩ <;> exact ⟨by simp [pk], by simp [pe2]⟩
def NS (K : Ks) : Prop := tp K < 2 ∨ 6 < tp K
def NM (K : Ks) : Prop := ¬ (4 ≤ tp K ∧ tp K ≤ 6)
theorem NS.nm {K : Ks} (h : NS K) : NM K := by
  unfold NS at h
  unfold NM
  omega
section SU
variable {T : Nat → Int} {n p o : Int} {c : Cd} {K : Ks} {τ : pS}
theorem cs_x {X : List Int} {all : Int} {fu : Nat} (h : ST τ T n p c (K ++ pk X) o) (hX : X = [] ∨ ∃ s, X = [s] ∧ ((s = 42 ∨ s = 47 ∨ s = 37) ∨ ((s = 43 ∨ s = 45) ∧ all = 1))) (hl : K.length < 260) (hc : c.length < 260) : ∃ (fu' : Nat) (τ' : pS), fu ≤ fu' ∧ f_M_closesSums_84_p0 (fu + 1) all τ = f_M_closesSums_84_p0 fu' all τ' ∧ ST τ' T n p (c ++ pe2 X) K o ∧ FR QL τ τ' := by
  rcases hX with rfl | ⟨s, rfl, hs⟩
  · rw [show K ++ pk [] = K from List.append_nil K] at h
    exact ⟨fu + 1, τ, Nat.le_succ _, rfl, by rw [show c ++ pe2 [] = c from List.append_nil c]; exact h, FR.rf _ _⟩
  · obtain ⟨τ', a, b, c⟩ := m_cs1 (fu := fu) (all := all) h hl hc hs
    exact ⟨fu, τ', Nat.le_refl _, a, b, c⟩
theorem cs_mul {M : List Int} (h : ST τ T n p c (K ++ pk M) o) (hM : isM M) (hK : NM K) (hl : K.length < 258) (hc : c.length < 258) : ∃ τ', f_M_closesSums_84 0 τ = some (0, τ') ∧ ST τ' T n p (c ++ pe2 M) K o ∧ FR QL τ τ' := by
  obtain ⟨f1, τ1, l1, a1, b1, c1⟩ := cs_x (fu := 4095) (all := 0) h (hM.imp id (fun ⟨s, e, hs⟩ => ⟨s, e, Or.inl hs⟩)) (by omega) (by omega)
  obtain ⟨f1, rfl⟩ : ∃ k, f1 = k + 1 := ⟨f1 - 1, by omega⟩
  refine ⟨τ1, ?_, b1, c1⟩
  have e : f_M_closesSums_84 0 τ = f_M_closesSums_84_p0 (4095 + 1) 0 τ := rfl
  rw [e, a1]
  exact m_cs0 b1 (by omega) hK (Or.inl rfl)
theorem cs_all {A M : List Int} (h : ST τ T n p c (K ++ pk A ++ pk M) o) (hA : isA A) (hM : isM M) (hK : NS K) (hl : K.length < 258) (hc : c.length < 258) : ∃ τ', f_M_closesSums_84 1 τ = some (0, τ') ∧ ST τ' T n p (c ++ pe2 M ++ pe2 A) K o ∧ FR QL τ τ' := by
  obtain ⟨f1, τ1, l1, a1, b1, c1⟩ := cs_x (fu := 4095) (all := 1) h (hM.imp id (fun ⟨s, e, hs⟩ => ⟨s, e, Or.inl hs⟩)) (by rw [List.length_append]; have := hA.len.1; omega) (by omega)
  obtain ⟨f1, rfl⟩ : ∃ k, f1 = k + 1 := ⟨f1 - 1, by omega⟩
  obtain ⟨f2, τ2, l2, a2, b2, c2⟩ := cs_x (fu := f1) (all := 1) b1 (hA.imp id (fun ⟨s, e, hs⟩ => ⟨s, e, Or.inr ⟨hs, rfl⟩⟩)) (by omega) (by rw [List.length_append]; have := hM.len.2; omega)
  obtain ⟨f2, rfl⟩ : ∃ k, f2 = k + 1 := ⟨f2 - 1, by omega⟩
  refine ⟨τ2, ?_, b2, c1.tr c2⟩
  have e : f_M_closesSums_84 1 τ = f_M_closesSums_84_p0 (4095 + 1) 1 τ := rfl
  rw [e, a1, a2]
  unfold NS at hK
  exact m_cs0 b2 (by omega) (by omega) (Or.inr ⟨rfl, by omega, by omega⟩)
theorem m_hos1 (h : MS τ K) (hl : K.length ≤ 260) : ∀ (fu i : Nat), (∃ j q, i ≤ j ∧ K[j]? = some q ∧ q.1 = 14) → K.length < fu + i → f_M_hasOpenSum_84_p2 fu (i : Int) τ = some (1, τ) := by
  intro fu
  induction fu with
  | zero =>
    intro i ⟨j, q, hij, hq, _⟩ hf
    have := (List.getElem?_eq_some_iff.mp hq).1
    omega
  | succ fu ih =>
    intro i hx hf
    obtain ⟨j, q, hij, hq, h14⟩ := hx
    have hj := (List.getElem?_eq_some_iff.mp hq).1
    have hr : K[i]? = some K[i] := List.getElem?_eq_getElem (by omega)
    generalize K[i] = r at hr
    obtain ⟨e1, e2, e3⟩ := h.2 i r hr
    rw [f_M_hasOpenSum_84_p2, h.1, if_neg (by omega), if_pos (by omega), Int.toNat_natCast, e1, unit_div e2 e3]
    by_cases h9 : r.1 = 14
    · rw [if_pos h9]
    · rw [if_neg h9, pw_id (by omega) (by omega)]
      have hne : i ≠ j := fun e => by
        subst e
        rw [hr] at hq
        cases hq
        exact h9 h14
      exact ih (i + 1) ⟨j, q, by omega, hq, h14⟩ (by omega)
theorem m_hos0 (h : MS τ K) (hl : K.length ≤ 260) : ∀ (fu i : Nat), (∀ j q, i ≤ j → K[j]? = some q → q.1 ≠ 14) → K.length < fu + i → 0 < fu → f_M_hasOpenSum_84_p2 fu (i : Int) τ = some (0, τ) := by
  intro fu
  induction fu with
  | zero =>
    intro i _ _ hf
    omega
  | succ fu ih =>
    intro i hx hf _
    rw [f_M_hasOpenSum_84_p2, h.1]
    by_cases hi : K.length ≤ i
    · rw [if_pos (by omega)]
    · have hr : K[i]? = some K[i] := List.getElem?_eq_getElem (by omega)
      generalize K[i] = r at hr
      obtain ⟨e1, e2, e3⟩ := h.2 i r hr
      rw [if_neg (by omega), if_pos (by omega), Int.toNat_natCast, e1, unit_div e2 e3, if_neg (hx i r (Nat.le_refl _) hr), pw_id (by omega) (by omega)]
      exact ih (i + 1) (fun j q hj hq => hx j q (by omega) hq) (by omega) (by omega)
def mF (fi fo : Nat) (b : Int) (τ : pS) : Option (Int × pS) := (f_M_readsFactor_84_p0 fi τ).bind fun q => if q.1 = 0 then some (0, q.2) else f_M_readsSum_84_p14 fo b q.2
theorem m_push (h : ST τ T n p c K o) (hp : p < n) (hl : K.length < 260) {s : Int} : ∃ τ', (pU (pU (pU τ 98 ((τ 84 25).toNat) (pw (1048576 * mop s))) 84 25 (pw ((τ 84 25) + 1))) 84 19 (pw ((τ 84 19) + 1))) = τ' ∧ ST τ' T n (p + 1) c (K ++ pk [s]) o ∧ FR QL τ τ' := by
  obtain ⟨h1, ⟨h2, h3⟩, hK, h6⟩ := h
  have hb := h1.2.2.1
  have hm := mop_r s
  refine ⟨pU (pU (pU τ 98 K.length (1048576 * mop s)) 84 25 ((K.length : Int) + 1)) 84 19 (p + 1), ?_, ⟨?_, ⟨?_, fun i q hq => ?_⟩, ?_, ?_⟩, ?_⟩
  · rw [hK.1, h1.1, pw_id (z := 1048576 * mop s) (by omega) (by omega), pw_id (z := (K.length : Int) + 1) (by omega) (by omega), pw_id (z := p + 1) (by omega) (by omega), Int.toNat_natCast]
  · exact h1.at (pU_s _ _ _ _) (by simp [pU]) (fun i => by simp [pU]) (by omega) (by omega)
  · simp [pU, h2]
  · rw [show pU (pU (pU τ 98 K.length (1048576 * mop s)) 84 25 ((K.length : Int) + 1)) 84 19 (p + 1) 97 i = τ 97 i by simp [pU]]
    exact h3 i q hq
  · exact hK.push (by omega) (by omega) (by simp [pU]) (by simp [pU]) (fun i hi => by simp [pU, hi])
  · simp [pU, h6]
  · exact ((FR.u (Or.inr (Or.inr rfl))).tr (FR.u (Or.inl ⟨rfl, by decide⟩))).tr (FR.u (Or.inl ⟨rfl, by decide⟩))
theorem m_p38 {τ1 : pS} {s0 s b : Int} {k : Nat} (hcl : f_M_closesSums_84 s0 τ = some (0, τ1)) (h : ST τ1 T n p c K o) (hp : p < n) (hl : K.length < 260) : ∃ τ', f_M_readsSum_84_p38 (f_M_readsSum_84_p14 k) b (mop s) s0 τ = mF 4096 k b τ' ∧ ST τ' T n (p + 1) c (K ++ pk [s]) o ∧ FR QL τ1 τ' := by
  obtain ⟨τ', e, h1, h2⟩ := m_push h hp hl (s := s)
  refine ⟨τ', ?_, h1, h2⟩
  unfold f_M_readsSum_84_p38
  rw [hcl, Option.bind_some]
  dsimp only
  rw [if_pos (by rw [h.2.2.1.1]; omega), e]
  rfl
end SU
/-- what the reference's reader has come to: at w's end, with signs A, M waiting -/
def mEnd (T : Nat → Int) (n b o : Int) (K : Ks) (w : Nat) (τ : pS) (F : Option (Int × pS)) (r : (Int × Cd) ⊕ Int) (lb s : Int) : Prop := match r with
  | .inr f => ∃ τ', F = some (0, τ') ∧ τ' 84 21 = f ∧ FR QL τ τ'
  | .inl q => ∃ (fo : Nat) (τ' : pS) (cm : Cd) (A M : List Int), F = f_M_readsSum_84_p14 fo b τ' ∧ n - q.1 < fo ∧ ST τ' T n q.1 cm (K ++ pk A ++ pk M) o ∧ (isA A ∧ isM M) ∧ q.2 = cm ++ pe2 M ++ pe2 A ∧ ((w = 2 → M = []) ∧ (w = 1 ∨ w = 2 ∨ w = 4 → A = []) ∧ (w ≠ 2 → ¬ isMul (hd T n q.1)) ∧ (w = 0 ∨ w = 3 → ¬ isAdd (hd T n q.1))) ∧ FR QL τ τ' ∧ (q.2.length : Int) + s ≤ q.1 ∧ lb ≤ q.1
theorem mEnd.up {T : Nat → Int} {n b o : Int} {K : Ks} {w w' : Nat} {τ τ1 : pS} {F F1 : Option (Int × pS)} {r : (Int × Cd) ⊕ Int} {lb lb1 s : Int} (h : mEnd T n b o K w' τ1 F1 r lb1 s) (hF : F = F1) (hf : FR QL τ τ1) (hl : lb ≤ lb1) (hw : (w = 0 ∧ w' = 3) ∨ (w = 1 ∧ w' = 4) ∨ w = w') : mEnd T n b o K w τ F r lb s := by
  subst hF
  cases r with
  | inr f =>
    obtain ⟨τ', a, b, c⟩ := h
    exact ⟨τ', a, b, hf.tr c⟩
  | inl q =>
    obtain ⟨fo, τ', cm, A, M, h1, h2, h3, h4, h5, ⟨h6, h7, h8, h9⟩, h10, h11, h12⟩ := h
    exact ⟨fo, τ', cm, A, M, h1, h2, h3, h4, h5, ⟨fun e => h6 (by omega), fun e => h7 (by omega), fun e => h8 (by omega), fun e => h9 (by omega)⟩, hf.tr h10, h11, by omega⟩
theorem pIdx_r (a : Int) : -1 ≤ pIdx a ∧ pIdx a ≤ 6 := by
  unfold pIdx
  repeat' split
  all_goals decide
theorem app0 {α : Type} (a : List α) : a ++ [] ++ [] = a := by simp
theorem m_sum {T : Nat → Int} {n : Int} : ∀ (d w : Nat) (o p b : Int) (c : Cd) (K : Ks) (τ : pS) (s : Int), 0 ≤ s → (c.length : Int) + s ≤ p → (K.length : Int) ≤ p → 0 ≤ b → b ≤ (K.length : Int) → 0 ≤ o → o ≤ 6 → 4 * (n - p) + rnk w < d →
    (w ≤ 2 → (w = 0 → NS K) → (w = 1 → NM K) → ST τ T n p c K o → ∀ fi fo : Nat, n - p < fi → n - p < fo → mEnd T n b o K w τ (mF fi fo b τ) (sXp T n d w o p c) (p + 1) s) ∧
    (w = 3 → NS K → ∀ (fo : Nat) (cm : Cd) (A M : List Int), ST τ T n p cm (K ++ pk A ++ pk M) o → isA A → isM M → c = cm ++ pe2 M ++ pe2 A → ¬ isMul (hd T n p) → n - p < fo → mEnd T n b o K 3 τ (f_M_readsSum_84_p14 fo b τ) (sXp T n d w o p c) p s) ∧
    (w = 4 → NM K → ∀ (fo : Nat) (cm : Cd) (M : List Int), ST τ T n p cm (K ++ pk M) o → isM M → c = cm ++ pe2 M → n - p < fo → mEnd T n b o K 4 τ (f_M_readsSum_84_p14 fo b τ) (sXp T n d w o p c) p s) := by
  intro d
  induction d with
  | zero =>
    intro w o p b c K τ s hs hl hk hb0 hb ho1 ho2 hd9
    have hrk : 1 ≤ rnk w := by unfold rnk; split <;> decide
    refine ⟨fun _ _ _ h => ?_, fun _ _ fo cm A M h => ?_, fun _ _ fo cm M h => ?_⟩
    · have := h.1.2.2.1
      omega
    · have := h.1.2.2.1
      omega
    · have := h.1.2.2.1
      omega
  | succ d ih =>
    intro w o p b c K τ s hs hl hk hb0 hb ho1 ho2 hd9
    match w, hd9 with
    | 0, hd9 =>
      refine ⟨fun _ hNS _ h fi fo hfi hfo => ?_, fun h => absurd h (by decide), fun h => absurd h (by decide)⟩
      have hd9 : 4 * (n - p) + 3 < ((d + 1 : Nat) : Int) := hd9
      have h1 := (ih 1 o p b c K τ s hs hl hk hb0 hb ho1 ho2 (by show 4 * (n - p) + 2 < _; omega)).1 (by decide) (fun e => absurd e (by decide)) (fun _ => (hNS rfl).nm) h fi fo hfi hfo
      rw [sXp_0]
      cases hr : sXp T n d 1 o p c with
      | inr f =>
        rw [hr] at h1
        exact h1
      | inl q =>
        rw [hr] at h1
        obtain ⟨fo1, τ1, cm, A, M, a1, a2, a3, ⟨a4, a4'⟩, a5, ⟨a6, a7, a8, a9⟩, a10, a11, a12⟩ := h1
        have hb1 := a3.1.2.2.1
        have h2 := (ih 3 o q.1 b q.2 K τ1 s hs a11 (by omega) hb0 hb ho1 ho2 (by show 4 * (n - q.1) + 1 < _; omega)).2.1 rfl (hNS rfl) fo1 cm A M a3 a4 a4' a5 (a8 (by decide)) a2
        exact h2.up a1 a10 (by omega) (Or.inl ⟨rfl, rfl⟩)
    | 1, hd9 =>
      refine ⟨fun _ _ hNM h fi fo hfi hfo => ?_, fun h => absurd h (by decide), fun h => absurd h (by decide)⟩
      have hd9 : 4 * (n - p) + 2 < ((d + 1 : Nat) : Int) := hd9
      have h1 := (ih 2 o p b c K τ s hs hl hk hb0 hb ho1 ho2 (by show 4 * (n - p) + 1 < _; omega)).1 (by decide) (fun e => absurd e (by decide)) (fun e => absurd e (by decide)) h fi fo hfi hfo
      rw [sXp_1]
      cases hr : sXp T n d 2 o p c with
      | inr f =>
        rw [hr] at h1
        exact h1
      | inl q =>
        rw [hr] at h1
        obtain ⟨fo1, τ1, cm, A, M, a1, a2, a3, ⟨a4, a4'⟩, a5, ⟨a6, a7, a8, a9⟩, a10, a11, a12⟩ := h1
        obtain rfl := a6 rfl
        obtain rfl := a7 (by decide)
        have hb1 := a3.1.2.2.1
        rw [show pk [] = [] from rfl, List.append_nil] at a3
        have h2 := (ih 4 o q.1 b q.2 K τ1 s hs a11 (by omega) hb0 hb ho1 ho2 (by show 4 * (n - q.1) + 1 < _; omega)).2.2 rfl (hNM rfl) fo1 cm [] a3 a4' (by rw [a5]; exact List.append_nil _) a2
        exact h2.up a1 a10 (by omega) (Or.inr (Or.inl ⟨rfl, rfl⟩))
    | 2, hd9 =>
      refine ⟨fun _ _ _ h fi fo hfi hfo => ?_, fun h => absurd h (by decide), fun h => absurd h (by decide)⟩
      have hd9 : 4 * (n - p) + 1 < ((d + 1 : Nat) : Int) := hd9
      have hPb := h.1.2.2.1
      obtain ⟨fi, rfl⟩ : ∃ k, fi = k + 1 := ⟨fi - 1, by omega⟩
      rw [sXp_2]
      have eF : mF (fi + 1) fo b τ = (f_M_readsFactor_84_p0 (fi + 1) τ).bind fun q => if q.1 = 0 then some (0, q.2) else f_M_readsSum_84_p14 fo b q.2 := rfl
      rw [eF, f_M_readsFactor_84_p0, m_here h.1, Option.bind_some]
      dsimp only
      by_cases h91 : hd T n p = 91
      · have hp : p < n := hd_in (T := T) (by omega)
        rw [if_pos h91, if_pos h91]
        have hop := m_opn h hp (by omega) ⟨ho1, ho2⟩ (a := 14) (by decide)
        by_cases ho : 6 ≤ o
        · obtain ⟨τ1, a1, b1, c1⟩ := hop.1 (by omega)
          rw [if_pos ho, a1, Option.bind_some]
          dsimp only
          rw [if_pos rfl, Option.bind_some]
          exact ⟨τ1, rfl, b1, c1⟩
        · obtain ⟨τ1, a1, b1, c1⟩ := hop.2 (by omega)
          rw [if_neg ho, a1, Option.bind_some]
          dsimp only
          rw [if_neg (by decide)]
          have hNS1 : NS (K ++ [(14, 0)]) := by
            unfold NS
            rw [tp_s]
            right
            decide
          have hKl : ((K ++ [((14 : Int), (0 : Int))]).length : Int) = (K.length : Int) + 1 := by rw [List.length_append]; simp
          have h1 := (ih 0 (o + 1) (p + 1) b c (K ++ [(14, 0)]) τ1 s hs (by omega) (by omega) hb0 (by omega) (by omega) (by omega) (by show 4 * (n - (p + 1)) + 3 < _; omega)).1 (by decide) (fun _ => hNS1) (fun e => absurd e (by decide)) b1 fi fo (by omega) (by omega)
          have eF1 : mF fi fo b τ1 = (f_M_readsFactor_84_p0 fi τ1).bind fun q => if q.1 = 0 then some (0, q.2) else f_M_readsSum_84_p14 fo b q.2 := rfl
          rw [← eF1]
          cases hr2 : sXp T n d 0 (o + 1) (p + 1) c with
          | inr f =>
            rw [hr2] at h1
            obtain ⟨τ2, a2, b2, c2⟩ := h1
            exact ⟨τ2, a2, b2, c1.tr c2⟩
          | inl q =>
            rw [hr2] at h1
            obtain ⟨fo1, τ2, cm, A, M, a1, a2, a3, ⟨a4, a4'⟩, a5, ⟨a6, a7, a8, a9⟩, a10, a11, a12⟩ := h1
            have hb1 := a3.1.2.2.1
            obtain ⟨k, rfl⟩ : ∃ k, fo1 = k + 1 := ⟨fo1 - 1, by omega⟩
            have hlen : (K ++ [((14 : Int), (0 : Int))] ++ pk A ++ pk M).length ≤ 260 := by
              rw [List.length_append, List.length_append]
              have := a4.len.1
              have := a4'.len.1
              omega
            have hcm : cm.length ≤ q.2.length := by rw [a5, List.length_append, List.length_append]; omega
            have h14 : ∃ j r, b.toNat ≤ j ∧ (K ++ [((14 : Int), (0 : Int))] ++ pk A ++ pk M)[j]? = some r ∧ r.1 = 14 := by
              refine ⟨K.length, (14, 0), by omega, ?_, rfl⟩
              rw [List.append_assoc, List.append_assoc, List.getElem?_append_right (Nat.le_refl _), Nat.sub_self]
              rfl
            have hos : f_M_hasOpenSum_84 b τ2 = some (1, τ2) := by
              have := m_hos1 a3.2.2.1 hlen 4096 b.toNat h14 (by omega)
              rw [show ((b.toNat : Nat) : Int) = b by omega] at this
              exact this
            rw [a1, f_M_readsSum_84_p14, m_here a3.1, Option.bind_some]
            dsimp only
            rw [m_sgn0 (a8 (by decide)) (a9 (Or.inl rfl)), Option.bind_some]
            dsimp only
            rw [if_pos rfl, m_here a3.1, Option.bind_some]
            dsimp only
            by_cases h93 : hd T n q.1 = 93
            · have hq : q.1 < n := hd_in (T := T) (by omega)
              rw [if_pos h93, if_pos h93, hos, Option.bind_some]
              dsimp only
              rw [if_neg (by decide)]
              obtain ⟨τ3, a13, b3, c3⟩ := cs_all a3 a4 a4' hNS1 (by omega) (by omega)
              rw [← a5] at b3
              rw [a13, Option.bind_some]
              dsimp only
              have hlast := b3.2.2.1.last
              have h23 := b3.2.2.2
              have h19 := b3.1.1
              rw [h19, h23, hlast.1, pw_id (z := (K.length : Int) + 1 - 1) (by omega) (by omega), pw_id (z := o + 1 - 1) (by omega) (by omega), pw_id (z := q.1 + 1) (by omega) (by omega)]
              refine ⟨k, _, q.2, [], [], rfl, by dsimp only; omega, ?_, ⟨Or.inl rfl, Or.inl rfl⟩, (app0 _).symm, ⟨fun _ => rfl, fun _ => rfl, fun e => absurd rfl e, fun e => by omega⟩, ?_, by dsimp only; omega, by dsimp only; omega⟩
              · rw [show K ++ pk [] ++ pk [] = K from app0 K]
                refine ⟨?_, ⟨?_, fun i r hr => ?_⟩, ?_, ?_⟩
                · exact b3.1.at (pU_s _ _ _ _) (by simp [pU]) (fun i => by simp [pU]) (by omega) (by dsimp only; omega)
                · simp [pU, b3.2.1.1]
                · rw [show ∀ x y z : Int, pU (pU (pU τ3 84 25 x) 84 23 y) 84 19 z 97 i = τ3 97 i from fun x y z => by simp [pU]]
                  exact b3.2.1.2 i r hr
                · exact b3.2.2.1.pop (by rw [hlast.1]; simp [pU]) (fun i => by simp [pU])
                · simp [pU]
              · exact (((c1.tr a10).tr c3).tr (FR.u (Or.inl ⟨rfl, by decide⟩))).tr ((FR.u (Or.inl ⟨rfl, by decide⟩)).tr (FR.u (Or.inl ⟨rfl, by decide⟩)))
            · rw [if_neg h93, if_neg h93]
              unfold f_M_readsSum_84_p138
              rw [hos, Option.bind_some]
              dsimp only
              rw [if_neg (by decide), a3.1.1, m_wrong (by omega) (by omega), Option.bind_some]
              dsimp only
              rw [if_pos (by decide)]
              exact ⟨_, rfl, pU_s _ _ _ _, (c1.tr a10).tr (FR.u (Or.inl ⟨rfl, by decide⟩))⟩
      · rw [if_neg h91, if_neg h91, m_dig h.1, Option.bind_some]
        dsimp only
        by_cases hg : 48 ≤ hd T n p ∧ hd T n p ≤ 57
        · rw [if_pos hg, if_neg (by decide), if_pos hg]
          have h1 := m_num5 h.1 hg
          have hp : p < n := hd_in (T := T) (by omega)
          cases hr2 : sNum T n 5 p with
          | inr f =>
            rw [hr2] at h1
            obtain ⟨τ1, a1, b1, c1⟩ := h1
            rw [a1, Option.bind_some]
            dsimp only
            rw [if_pos rfl, Option.bind_some]
            exact ⟨τ1, rfl, b1, c1.ql⟩
          | inl v =>
            rw [hr2] at h1
            obtain ⟨τ1, a1, b1, c1, d1, e1, f1⟩ := h1
            have hgt := sNum_gt (by decide) hr2
            have hb1 := b1.2.2.1
            rw [a1, Option.bind_some]
            dsimp only
            rw [if_neg (by decide), d1]
            obtain ⟨τ2, a2, b2, c2⟩ := m_note (h.mo b1 c1) (by omega) (op := 0) (s := 48) (v := v.1) (by decide) (by omega)
            rw [a2, Option.bind_some]
            dsimp only
            rw [Option.bind_some]
            dsimp only
            rw [if_neg (by decide)]
            refine ⟨fo, τ2, _, [], [], rfl, by dsimp only; omega, by rw [show K ++ pk [] ++ pk [] = K from app0 K]; exact b2, ⟨Or.inl rfl, Or.inl rfl⟩, (app0 _).symm, ⟨fun _ => rfl, fun _ => rfl, fun e => absurd rfl e, fun e => by omega⟩, c1.ql.tr c2, by rw [List.length_append]; simp; omega, by dsimp only; omega⟩
        · rw [if_neg hg, if_pos rfl, if_neg hg, m_here h.1, Option.bind_some]
          dsimp only
          rw [m_fact, Option.bind_some]
          dsimp only
          have hix := pIdx_r (hd T n p)
          by_cases hi : 0 ≤ pIdx (hd T n p)
          · have hp := pIdx_in hi
            rw [if_neg (by omega), if_pos hi]
            obtain ⟨τ2, a2, b2, c2⟩ := m_note h (by omega) (op := 1) (s := 97) (v := pIdx (hd T n p)) (by decide) (by omega)
            rw [a2, Option.bind_some]
            dsimp only
            rw [Option.bind_some]
            dsimp only
            rw [if_neg (by decide), b2.1.1, pw_id (by omega) (by omega)]
            refine ⟨fo, _, _, [], [], rfl, by dsimp only; omega, by rw [show K ++ pk [] ++ pk [] = K from app0 K]; exact b2.nx (by omega) (by omega), ⟨Or.inl rfl, Or.inl rfl⟩, (app0 _).symm, ⟨fun _ => rfl, fun _ => rfl, fun e => absurd rfl e, fun e => by omega⟩, c2.tr (FR.u (Or.inl ⟨rfl, by decide⟩)), by rw [List.length_append]; simp; omega, by dsimp only; omega⟩
          · rw [if_pos (by omega), if_neg hi, h.1.1, m_wrong (by omega) (by omega), Option.bind_some]
            dsimp only
            rw [if_pos (by decide), Option.bind_some]
            dsimp only
            rw [if_pos rfl]
            exact ⟨_, rfl, pU_s _ _ _ _, FR.u (Or.inl ⟨rfl, by decide⟩)⟩
    | 3, hd9 =>
      refine ⟨fun h => absurd h (by decide), fun _ hNS fo cm A M h hA hM hc hmul hfo => ?_, fun h => absurd h (by decide)⟩
      have hd9 : 4 * (n - p) + 1 < ((d + 1 : Nat) : Int) := hd9
      have hPb := h.1.2.2.1
      rw [sXp_3]
      have hcm : cm.length ≤ c.length := by rw [hc, List.length_append, List.length_append]; omega
      by_cases hc9 : hd T n p = 43 ∨ hd T n p = 45
      · have hp : p < n := hd_in (T := T) (by omega)
        obtain ⟨k, rfl⟩ : ∃ k, fo = k + 1 := ⟨fo - 1, by omega⟩
        rw [if_pos hc9, f_M_readsSum_84_p14, m_here h.1, Option.bind_some]
        dsimp only
        rw [m_sgn1 (Or.inr hc9), Option.bind_some]
        dsimp only
        have hmo : mop (hd T n p) = 2 ∨ mop (hd T n p) = 3 := by rcases hc9 with e | e <;> rw [e] <;> decide
        rw [if_neg (by omega), if_neg (by omega)]
        obtain ⟨τ1, a1, b1, c1⟩ := cs_all h hA hM hNS (by omega) (by omega)
        rw [← hc] at b1
        obtain ⟨τ2, a2, b2, c2⟩ := m_p38 (s := hd T n p) (b := b) (k := k) a1 b1 hp (by omega)
        rw [a2]
        have hKl : ((K ++ pk [hd T n p]).length : Int) = (K.length : Int) + 1 := by rw [List.length_append]; simp [pk]
        have hNM : NM (K ++ pk [hd T n p]) := by
          unfold NM
          rw [show K ++ pk [hd T n p] = K ++ [(mop (hd T n p), 0)] from rfl, tp_s]
          dsimp only
          omega
        have h1 := (ih 1 o (p + 1) b c (K ++ pk [hd T n p]) τ2 (s + 1) (by omega) (by omega) (by omega) hb0 (by omega) ho1 ho2 (by show 4 * (n - (p + 1)) + 2 < _; omega)).1 (by decide) (fun e => absurd e (by decide)) (fun _ => hNM) b2 4096 k (by omega) (by omega)
        cases hr2 : sXp T n d 1 o (p + 1) c with
        | inr f =>
          rw [hr2] at h1
          obtain ⟨τ3, a3, b3, c3⟩ := h1
          exact ⟨τ3, a3, b3, (c1.tr c2).tr c3⟩
        | inl q =>
          rw [hr2] at h1
          obtain ⟨fo1, τ3, cm3, A3, M3, e1, e2, e3, ⟨e4, e4'⟩, e5, ⟨e6, e7, e8, e9⟩, e10, e11, e12⟩ := h1
          obtain rfl := e7 (Or.inl rfl)
          have hb1 := e3.1.2.2.1
          rw [show K ++ pk [hd T n p] ++ pk [] = K ++ pk [hd T n p] from List.append_nil _] at e3
          have h2 := (ih 3 o q.1 b (q.2 ++ [(hd T n p, 0)]) K τ3 s hs (by rw [List.length_append]; simp; omega) (by omega) hb0 hb ho1 ho2 (by show 4 * (n - q.1) + 1 < _; omega)).2.1 rfl hNS fo1 cm3 [hd T n p] M3 e3 (Or.inr ⟨_, rfl, hc9⟩) e4' (by rw [e5, show pe2 [] = [] from rfl, List.append_nil]; rfl) (e8 (by decide)) e2
          exact h2.up e1 ((c1.tr c2).tr e10) (by omega) (Or.inr (Or.inr rfl))
      · rw [if_neg hc9]
        exact ⟨fo, τ, cm, A, M, rfl, hfo, h, ⟨hA, hM⟩, hc, ⟨fun e => absurd e (by decide), fun e => absurd e (by decide), fun _ => hmul, fun _ => hc9⟩, FR.rf _ _, hl, Int.le_refl _⟩
    | 4, hd9 =>
      refine ⟨fun h => absurd h (by decide), fun h => absurd h (by decide), fun _ hNM fo cm M h hM hc hfo => ?_⟩
      have hd9 : 4 * (n - p) + 1 < ((d + 1 : Nat) : Int) := hd9
      have hPb := h.1.2.2.1
      rw [sXp_4]
      have hcm : cm.length ≤ c.length := by rw [hc, List.length_append]; omega
      by_cases hc9 : hd T n p = 42 ∨ hd T n p = 47 ∨ hd T n p = 37
      · have hp : p < n := hd_in (T := T) (by omega)
        obtain ⟨k, rfl⟩ : ∃ k, fo = k + 1 := ⟨fo - 1, by omega⟩
        rw [if_pos hc9, f_M_readsSum_84_p14, m_here h.1, Option.bind_some]
        dsimp only
        rw [m_sgn1 (Or.inl hc9), Option.bind_some]
        dsimp only
        have hmo : 4 ≤ mop (hd T n p) ∧ mop (hd T n p) ≤ 6 := by rcases hc9 with e | e | e <;> rw [e] <;> decide
        rw [if_neg (by omega), if_pos (by omega)]
        obtain ⟨τ1, a1, b1, c1⟩ := cs_mul h hM hNM (by omega) (by omega)
        rw [← hc] at b1
        obtain ⟨τ2, a2, b2, c2⟩ := m_p38 (s := hd T n p) (b := b) (k := k) a1 b1 hp (by omega)
        rw [a2]
        have hKl : ((K ++ pk [hd T n p]).length : Int) = (K.length : Int) + 1 := by rw [List.length_append]; simp [pk]
        have h1 := (ih 2 o (p + 1) b c (K ++ pk [hd T n p]) τ2 (s + 1) (by omega) (by omega) (by omega) hb0 (by omega) ho1 ho2 (by show 4 * (n - (p + 1)) + 1 < _; omega)).1 (by decide) (fun e => absurd e (by decide)) (fun e => absurd e (by decide)) b2 4096 k (by omega) (by omega)
        cases hr2 : sXp T n d 2 o (p + 1) c with
        | inr f =>
          rw [hr2] at h1
          obtain ⟨τ3, a3, b3, c3⟩ := h1
          exact ⟨τ3, a3, b3, (c1.tr c2).tr c3⟩
        | inl q =>
          rw [hr2] at h1
          obtain ⟨fo1, τ3, cm3, A3, M3, e1, e2, e3, ⟨e4, e4'⟩, e5, ⟨e6, e7, e8, e9⟩, e10, e11, e12⟩ := h1
          obtain rfl := e6 rfl
          obtain rfl := e7 (Or.inr (Or.inl rfl))
          have hb1 := e3.1.2.2.1
          rw [show K ++ pk [hd T n p] ++ pk [] ++ pk [] = K ++ pk [hd T n p] from app0 _] at e3
          have e5 : q.2 = cm3 := e5.trans (app0 _)
          subst e5
          have h2 := (ih 4 o q.1 b (q.2 ++ [(hd T n p, 0)]) K τ3 s hs (by rw [List.length_append]; simp; omega) (by omega) hb0 hb ho1 ho2 (by show 4 * (n - q.1) + 1 < _; omega)).2.2 rfl hNM fo1 q.2 [hd T n p] e3 (Or.inr ⟨_, rfl, hc9⟩) rfl e2
          exact h2.up e1 ((c1.tr c2).tr e10) (by omega) (Or.inr (Or.inr rfl))
      · rw [if_neg hc9]
        exact ⟨fo, τ, cm, [], M, rfl, hfo, by rw [show K ++ pk [] ++ pk M = K ++ pk M by rw [show pk [] = [] from rfl, List.append_nil]]; exact h, ⟨Or.inl rfl, hM⟩, by rw [show pe2 [] = [] from rfl, List.append_nil]; exact hc, ⟨fun e => absurd e (by decide), fun _ => rfl, fun _ => hc9, fun e => by omega⟩, FR.rf _ _, hl, Int.le_refl _⟩
    | w + 5, _ => exact ⟨fun h => by omega, fun h => by omega, fun h => by omega⟩
theorem no14 {K : Ks} {A M : List Int} (hA : isA A) (hM : isM M) : ∀ (j : Nat) (q : Int × Int), K.length ≤ j → (K ++ pk A ++ pk M)[j]? = some q → q.1 ≠ 14 := by
  intro j q hj hq
  rw [List.append_assoc, List.getElem?_append_right hj] at hq
  have hm := List.mem_of_getElem? hq
  rcases List.mem_append.mp hm with h | h
  · rcases hA with rfl | ⟨s, rfl, hs⟩
    · cases h
    · have e : q = (mop s, 0) := List.mem_singleton.mp h
      rw [e]
      have := mop_r s
      dsimp only
      omega
  · rcases hM with rfl | ⟨s, rfl, hs⟩
    · cases h
    · have e : q = (mop s, 0) := List.mem_singleton.mp h
      rw [e]
      have := mop_r s
      dsimp only
      omega
/-- the reference's sum -/
theorem m_expr {T : Nat → Int} {n o p : Int} {c : Cd} {K : Ks} {τ : pS} (h : ST τ T n p c K o) (hNS : NS K) {s : Int} (hs : 0 ≤ s) (hl : (c.length : Int) + s ≤ p) (hk : (K.length : Int) ≤ p) (ho1 : 0 ≤ o) (ho2 : o ≤ 6) : match sXp T n 1000 0 o p c with
    | .inr f => ∃ τ', f_M_readsSum_84 τ = some (0, τ') ∧ τ' 84 21 = f ∧ FR QL τ τ'
    | .inl q => ∃ τ', f_M_readsSum_84 τ = some (1, τ') ∧ ST τ' T n q.1 q.2 K o ∧ FR QL τ τ' ∧ (q.2.length : Int) + s ≤ q.1 ∧ p + 1 ≤ q.1 := by
  have hPb := h.1.2.2.1
  have h1 := (m_sum 1000 0 o p (K.length : Int) c K τ s hs hl hk (by omega) (Int.le_refl _) ho1 ho2 (by show 4 * (n - p) + 3 < _; omega)).1 (by decide) (fun _ => hNS) (fun e => absurd e (by decide)) h 4096 4096 (by omega) (by omega)
  have e : f_M_readsSum_84 τ = mF 4096 4096 (τ 84 25) τ := rfl
  rw [e, h.2.2.1.1]
  cases hr : sXp T n 1000 0 o p c with
  | inr f =>
    rw [hr] at h1
    exact h1
  | inl q =>
    rw [hr] at h1
    obtain ⟨fo1, τ2, cm, A, M, a1, a2, a3, ⟨a4, a4'⟩, a5, ⟨a6, a7, a8, a9⟩, a10, a11, a12⟩ := h1
    have hb1 := a3.1.2.2.1
    obtain ⟨k, rfl⟩ : ∃ k, fo1 = k + 1 := ⟨fo1 - 1, by omega⟩
    have hlen : (K ++ pk A ++ pk M).length ≤ 260 := by
      rw [List.length_append, List.length_append]
      have := a4.len.1
      have := a4'.len.1
      omega
    have hcm : cm.length ≤ q.2.length := by rw [a5, List.length_append, List.length_append]; omega
    have hos : f_M_hasOpenSum_84 (K.length : Int) τ2 = some (0, τ2) := m_hos0 a3.2.2.1 hlen 4096 K.length (no14 a4 a4') (by omega) (by decide)
    obtain ⟨τ3, a13, b3, c3⟩ := cs_all a3 a4 a4' hNS (by omega) (by omega)
    rw [← a5] at b3
    have e9 : f_M_readsSum_84_p138 (K.length : Int) τ2 = some (1, τ3) := by
      unfold f_M_readsSum_84_p138
      rw [hos, Option.bind_some]
      dsimp only
      rw [if_pos rfl, a13, Option.bind_some]
    rw [a1, f_M_readsSum_84_p14, m_here a3.1, Option.bind_some]
    dsimp only
    rw [m_sgn0 (a8 (by decide)) (a9 (Or.inl rfl)), Option.bind_some]
    dsimp only
    rw [if_pos rfl, m_here a3.1, Option.bind_some]
    dsimp only
    refine ⟨τ3, ?_, b3, a10.tr c3, a11, a12⟩
    by_cases h93 : hd T n q.1 = 93
    · rw [if_pos h93, hos, Option.bind_some]
      dsimp only
      rw [if_pos rfl, e9]
    · rw [if_neg h93, e9]
/-- conditions: 0 either, 1 both, 2 test, 3 behind a both, 4 behind a test -/
def sCd (T : Nat → Int) (n : Int) : Nat → Nat → Int → Int → Cd → (Int × Cd) ⊕ Int
  | 0, _, _, _, _ => .inr 0
  | d + 1, 0, o, p, c => (match sCd T n d 1 o p c with
    | .inr f => .inr f
    | .inl q => sCd T n d 3 o q.1 q.2)
  | d + 1, 1, o, p, c => (match sCd T n d 2 o p c with
    | .inr f => .inr f
    | .inl q => sCd T n d 4 o q.1 q.2)
  | d + 1, 2, o, p, c => if hd T n p = 33 then (if 6 ≤ o then .inr (-1000 * 5 - p) else (match sCd T n d 2 (o + 1) (p + 1) c with
      | .inr f => .inr f
      | .inl q => .inl (q.1, q.2 ++ [(33, 0)])))
    else if hd T n p = 40 then (if 6 ≤ o then .inr (-1000 * 5 - p) else (match sCd T n d 0 (o + 1) (p + 1) c with
      | .inr f => .inr f
      | .inl q => if hd T n q.1 = 41 then .inl (q.1 + 1, q.2) else .inr (-1000 * 1 - q.1)))
    else (match sXp T n 1000 0 o p c with
      | .inr f => .inr f
      | .inl q => if hd T n q.1 = 60 ∨ hd T n q.1 = 62 ∨ hd T n q.1 = 61 then (match sXp T n 1000 0 o (q.1 + 1) q.2 with
          | .inr f => .inr f
          | .inl u => .inl (u.1, u.2 ++ [(hd T n q.1, 0)])) else .inr (-1000 * 1 - q.1))
  | d + 1, 3, o, p, c => if hd T n p = 124 then (match sCd T n d 1 o (p + 1) (c ++ [(124, 0)]) with
      | .inr f => .inr f
      | .inl q => sCd T n d 3 o q.1 (q.2.set c.length (124, (q.2.length : Int)))) else .inl (p, c)
  | d + 1, _, o, p, c => if hd T n p = 38 then (match sCd T n d 2 o (p + 1) (c ++ [(38, 0)]) with
      | .inr f => .inr f
      | .inl q => sCd T n d 4 o q.1 (q.2.set c.length (38, (q.2.length : Int)))) else .inl (p, c)
theorem sCd_0 {T : Nat → Int} {n o p : Int} {c : Cd} {d : Nat} : sCd T n (d + 1) 0 o p c = (match sCd T n d 1 o p c with
    | .inr f => .inr f
    | .inl q => sCd T n d 3 o q.1 q.2) := by rw [sCd]
theorem sCd_1 {T : Nat → Int} {n o p : Int} {c : Cd} {d : Nat} : sCd T n (d + 1) 1 o p c = (match sCd T n d 2 o p c with
    | .inr f => .inr f
    | .inl q => sCd T n d 4 o q.1 q.2) := by rw [sCd]
theorem sCd_2 {T : Nat → Int} {n o p : Int} {c : Cd} {d : Nat} : sCd T n (d + 1) 2 o p c = if hd T n p = 33 then (if 6 ≤ o then .inr (-1000 * 5 - p) else (match sCd T n d 2 (o + 1) (p + 1) c with
      | .inr f => .inr f
      | .inl q => .inl (q.1, q.2 ++ [(33, 0)])))
    else if hd T n p = 40 then (if 6 ≤ o then .inr (-1000 * 5 - p) else (match sCd T n d 0 (o + 1) (p + 1) c with
      | .inr f => .inr f
      | .inl q => if hd T n q.1 = 41 then .inl (q.1 + 1, q.2) else .inr (-1000 * 1 - q.1)))
    else (match sXp T n 1000 0 o p c with
      | .inr f => .inr f
      | .inl q => if hd T n q.1 = 60 ∨ hd T n q.1 = 62 ∨ hd T n q.1 = 61 then (match sXp T n 1000 0 o (q.1 + 1) q.2 with
          | .inr f => .inr f
          | .inl u => .inl (u.1, u.2 ++ [(hd T n q.1, 0)])) else .inr (-1000 * 1 - q.1)) := by rw [sCd]
theorem sCd_3 {T : Nat → Int} {n o p : Int} {c : Cd} {d : Nat} : sCd T n (d + 1) 3 o p c = if hd T n p = 124 then (match sCd T n d 1 o (p + 1) (c ++ [(124, 0)]) with
      | .inr f => .inr f
      | .inl q => sCd T n d 3 o q.1 (q.2.set c.length (124, (q.2.length : Int)))) else .inl (p, c) := by rw [sCd]
theorem sCd_4 {T : Nat → Int} {n o p : Int} {c : Cd} {d : Nat} : sCd T n (d + 1) 4 o p c = if hd T n p = 38 then (match sCd T n d 2 o (p + 1) (c ++ [(38, 0)]) with
      | .inr f => .inr f
      | .inl q => sCd T n d 4 o q.1 (q.2.set c.length (38, (q.2.length : Int)))) else .inl (p, c) := by
  rw [sCd]
  all_goals (intros; omega)
/-- the codes that stand already stay -/
def Pre (c c' : Cd) : Prop := c.length ≤ c'.length ∧ ∀ i, i < c.length → c'[i]? = c[i]?
theorem Pre.rf (c : Cd) : Pre c c := ⟨Nat.le_refl _, fun _ _ => rfl⟩
theorem Pre.tr {a b c : Cd} (h1 : Pre a b) (h2 : Pre b c) : Pre a c := ⟨Nat.le_trans h1.1 h2.1, fun i hi => (h2.2 i (Nat.lt_of_lt_of_le hi h1.1)).trans (h1.2 i hi)⟩
theorem Pre.app (c e : Cd) : Pre c (c ++ e) := ⟨by rw [List.length_append]; omega, fun i hi => List.getElem?_append_left hi⟩
theorem Pre.set {c c' : Cd} (h : Pre c c') {i : Nat} (hi : c.length ≤ i) (x : Int × Int) : Pre c (c'.set i x) := ⟨by rw [List.length_set]; exact h.1, fun j hj => by rw [List.getElem?_set_ne (by omega)]; exact h.2 j hj⟩
theorem sXp_pre {T : Nat → Int} {n : Int} : ∀ (d w : Nat) (o p : Int) (c : Cd) (q : Int × Cd), w ≤ 4 → sXp T n d w o p c = .inl q → Pre c q.2 := by
  intro d
  induction d with
  | zero =>
    intro w o p c q _ h
    rw [sXp] at h
    cases h
  | succ d ih =>
    intro w o p c q hw h
    match w, hw with
    | 0, _ =>
      rw [sXp_0] at h
      cases hr : sXp T n d 1 o p c with
      | inr f => rw [hr] at h; cases h
      | inl u => rw [hr] at h; exact (ih 1 o p c u (by decide) hr).tr (ih 3 o _ _ q (by decide) h)
    | 1, _ =>
      rw [sXp_1] at h
      cases hr : sXp T n d 2 o p c with
      | inr f => rw [hr] at h; cases h
      | inl u => rw [hr] at h; exact (ih 2 o p c u (by decide) hr).tr (ih 4 o _ _ q (by decide) h)
    | 2, _ =>
      rw [sXp_2] at h
      split at h
      · split at h
        · cases h
        · cases hr : sXp T n d 0 (o + 1) (p + 1) c with
          | inr f => rw [hr] at h; cases h
          | inl u =>
            rw [hr] at h
            dsimp only at h
            split at h
            · cases h
              exact ih 0 _ _ c u (by decide) hr
            · cases h
      · split at h
        · cases hr : sNum T n 5 p with
          | inr f => rw [hr] at h; cases h
          | inl u => rw [hr] at h; cases h; exact Pre.app _ _
        · split at h
          · cases h
            exact Pre.app _ _
          · cases h
    | 3, _ =>
      rw [sXp_3] at h
      split at h
      · cases hr : sXp T n d 1 o (p + 1) c with
        | inr f => rw [hr] at h; cases h
        | inl u => rw [hr] at h; exact ((ih 1 o _ c u (by decide) hr).tr (Pre.app _ _)).tr (ih 3 o _ _ q (by decide) h)
      · cases h
        exact Pre.rf _
    | 4, _ =>
      rw [sXp_4] at h
      split at h
      · cases hr : sXp T n d 2 o (p + 1) c with
        | inr f => rw [hr] at h; cases h
        | inl u => rw [hr] at h; exact ((ih 2 o _ c u (by decide) hr).tr (Pre.app _ _)).tr (ih 4 o _ _ q (by decide) h)
      · cases h
        exact Pre.rf _
theorem sCd_pre {T : Nat → Int} {n : Int} : ∀ (d w : Nat) (o p : Int) (c : Cd) (q : Int × Cd), w ≤ 4 → sCd T n d w o p c = .inl q → Pre c q.2 := by
  intro d
  induction d with
  | zero =>
    intro w o p c q _ h
    rw [sCd] at h
    cases h
  | succ d ih =>
    intro w o p c q hw h
    match w, hw with
    | 0, _ =>
      rw [sCd_0] at h
      cases hr : sCd T n d 1 o p c with
      | inr f => rw [hr] at h; cases h
      | inl u => rw [hr] at h; exact (ih 1 o p c u (by decide) hr).tr (ih 3 o _ _ q (by decide) h)
    | 1, _ =>
      rw [sCd_1] at h
      cases hr : sCd T n d 2 o p c with
      | inr f => rw [hr] at h; cases h
      | inl u => rw [hr] at h; exact (ih 2 o p c u (by decide) hr).tr (ih 4 o _ _ q (by decide) h)
    | 2, _ =>
      rw [sCd_2] at h
      split at h
      · split at h
        · cases h
        · cases hr : sCd T n d 2 (o + 1) (p + 1) c with
          | inr f => rw [hr] at h; cases h
          | inl u =>
            rw [hr] at h
            cases h
            exact (ih 2 _ _ c u (by decide) hr).tr (Pre.app _ _)
      · split at h
        · split at h
          · cases h
          · cases hr : sCd T n d 0 (o + 1) (p + 1) c with
            | inr f => rw [hr] at h; cases h
            | inl u =>
              rw [hr] at h
              dsimp only at h
              split at h
              · cases h
                exact ih 0 _ _ c u (by decide) hr
              · cases h
        · cases hr : sXp T n 1000 0 o p c with
          | inr f => rw [hr] at h; cases h
          | inl u =>
            rw [hr] at h
            dsimp only at h
            split at h
            · cases hr2 : sXp T n 1000 0 o (u.1 + 1) u.2 with
              | inr f => rw [hr2] at h; cases h
              | inl v =>
                rw [hr2] at h
                cases h
                exact ((sXp_pre 1000 0 _ _ c u (by decide) hr).tr (sXp_pre 1000 0 _ _ _ v (by decide) hr2)).tr (Pre.app _ _)
            · cases h
    | 3, _ =>
      rw [sCd_3] at h
      split at h
      · cases hr : sCd T n d 1 o (p + 1) (c ++ [(124, 0)]) with
        | inr f => rw [hr] at h; cases h
        | inl u => rw [hr] at h; exact (((Pre.app _ _).tr (ih 1 o _ _ u (by decide) hr)).set (Nat.le_refl _) _).tr (ih 3 o _ _ q (by decide) h)
      · cases h
        exact Pre.rf _
    | 4, _ =>
      rw [sCd_4] at h
      split at h
      · cases hr : sCd T n d 2 o (p + 1) (c ++ [(38, 0)]) with
        | inr f => rw [hr] at h; cases h
        | inl u => rw [hr] at h; exact (((Pre.app _ _).tr (ih 2 o _ _ u (by decide) hr)).set (Nat.le_refl _) _).tr (ih 4 o _ _ q (by decide) h)
      · cases h
        exact Pre.rf _
theorem Pre.mark {c c' : Cd} {s : Int} (h : Pre (c ++ [(s, 0)]) c') : c'[c.length]? = some (s, 0) ∧ c.length < c'.length := by
  have hl : (c ++ [(s, (0 : Int))]).length = c.length + 1 := by rw [List.length_append]; rfl
  refine ⟨?_, by have := h.1; omega⟩
  rw [h.2 c.length (by omega), List.getElem?_append_right (Nat.le_refl _), Nat.sub_self]
  rfl
theorem c_skip {σ : pS} {c : Cd} {T : Nat → Int} {n p : Int} (h : CL σ c) (hP : TP σ T n p) (hl : c.length ≤ 240) {i : Nat} {s x : Int} (hi : c[i]? = some (s, x)) : ∃ σ', f_Law_skipToHere_57 (i : Int) σ = some (0, σ') ∧ CL σ' (c.set i (s, (c.length : Int))) ∧ TP σ' T n p ∧ FR PL σ σ' := by
  have hlt := (List.getElem?_eq_some_iff.mp hi).1
  refine ⟨pU σ 62 i (σ 57 8), ?_, ⟨?_, fun j q hq => ?_⟩, hP.u _ _ (by decide) (by decide), FR.u (Or.inr (Or.inr (Or.inl rfl)))⟩
  · unfold f_Law_skipToHere_57
    rw [if_neg (by omega), if_neg (by omega), if_pos (by omega), Int.toNat_natCast]
  · rw [pU_c _ _ _ _ (by decide), List.length_set]
    exact h.1
  · rw [pU_c _ _ _ _ (by decide)]
    by_cases hj : j = i
    · subst hj
      rw [List.getElem?_set_self hlt] at hq
      cases hq
      rw [pU_s]
      exact ⟨(h.2 j _ hi).1, h.1⟩
    · rw [List.getElem?_set_ne (Ne.symm hj)] at hq
      rw [pU_i _ _ _ _ hj]
      exact h.2 j q hq
theorem c_expr {T : Nat → Int} {n : Int} (hT : TB T n) {o p : Int} {c : Cd} {σ : pS} {s : Int} (hP : TP σ T n p) (hC : CL σ c) (hs : 0 ≤ s) (hl : (c.length : Int) + s ≤ p) (ho1 : 0 ≤ o) (ho2 : o ≤ 6) : cEnd T n σ (rdS 40 0 o σ) (sXp T n 1000 0 o p c) (p + 1) s := by
  have := hP.2.2.1
  exact (c_sum hT 1000 0 o p c σ s (by decide) hP hC hs hl ho1 ho2 (by show 4 * (n - p) + 3 < _; omega)).1 (by decide) 40 (by omega)
theorem c_cond {T : Nat → Int} {n : Int} (hT : TB T n) : ∀ (d w : Nat) (o p : Int) (c : Cd) (σ : pS) (s : Int), w ≤ 4 → TP σ T n p → CL σ c → 0 ≤ s → (c.length : Int) + s ≤ p → 0 ≤ o → o ≤ 6 → 4 * (n - p) + rnk w < d →
    (w ≤ 2 → ∀ g : Nat, 3 * (6 - o) + (2 - (w : Int)) < g → cEnd T n σ (rdC g w o σ) (sCd T n d w o p c) (p + 1) s) ∧
    (w = 3 → ∀ (g fu : Nat) (k : Int), 3 * (6 - o) + 1 < g → 0 ≤ k → k < p → 241 - k < fu → cEnd T n σ (f_Law_readEither_57_1_p13 (rdC g) fu o k σ) (sCd T n d w o p c) p s) ∧
    (w = 4 → ∀ (g fu : Nat) (k : Int), 3 * (6 - o) < g → 0 ≤ k → k < p → 241 - k < fu → cEnd T n σ (f_Law_readBoth_57_1_p13 (rdC g) fu o k σ) (sCd T n d w o p c) p s) := by
  intro d
  induction d with
  | zero =>
    intro w o p c σ s hw hP hC hs hl ho1 ho2 hd9
    have := hP.2.2.1
    exfalso
    have : 1 ≤ rnk w := by unfold rnk; split <;> decide
    omega
  | succ d ih =>
    intro w o p c σ s hw hP hC hs hl ho1 ho2 hd9
    have hPb := hP.2.2.1
    match w, hw, hd9 with
    | 0, _, hd9 =>
      refine ⟨fun _ g hg => ?_, fun h => absurd h (by decide), fun h => absurd h (by decide)⟩
      obtain ⟨g, rfl⟩ : ∃ k, g = k + 1 := ⟨g - 1, by omega⟩
      have hd9 : 4 * (n - p) + 3 < ((d + 1 : Nat) : Int) := hd9
      have h1 := (ih 1 o p c σ s (by decide) hP hC hs hl ho1 ho2 (by show 4 * (n - p) + 2 < _; omega)).1 (by decide) g (by omega)
      rw [sCd_0]
      have e : rdC (g + 1) 0 o σ = f_Law_readEither_57_1 (rdC g) o σ := by
        rw [rdC]
        all_goals decide
      rw [e]
      unfold f_Law_readEither_57_1
      cases hr : sCd T n d 1 o p c with
      | inr f =>
        rw [hr] at h1
        obtain ⟨σ1, a1, b1, c1⟩ := h1
        rw [a1, Option.bind_some]
        exact ⟨σ1, rfl, b1, c1⟩
      | inl q =>
        rw [hr] at h1
        obtain ⟨σ1, a1, b1, c1, d1, e1, f1⟩ := h1
        rw [a1, Option.bind_some]
        dsimp only
        rw [if_neg (by decide)]
        have hPb1 := b1.2.2.1
        exact ((ih 3 o q.1 q.2 σ1 s (by decide) b1 c1 hs e1 ho1 ho2 (by show 4 * (n - q.1) + 1 < _; omega)).2.1 rfl g 4096 0 (by omega) (Int.le_refl _) (by omega) (by omega)).fr d1 f1
    | 1, _, hd9 =>
      refine ⟨fun _ g hg => ?_, fun h => absurd h (by decide), fun h => absurd h (by decide)⟩
      obtain ⟨g, rfl⟩ : ∃ k, g = k + 1 := ⟨g - 1, by omega⟩
      have hd9 : 4 * (n - p) + 2 < ((d + 1 : Nat) : Int) := hd9
      have h1 := (ih 2 o p c σ s (by decide) hP hC hs hl ho1 ho2 (by show 4 * (n - p) + 1 < _; omega)).1 (by decide) g (by omega)
      rw [sCd_1]
      have e : rdC (g + 1) 1 o σ = f_Law_readBoth_57_1 (rdC g) o σ := by
        rw [rdC]
        all_goals decide
      rw [e]
      unfold f_Law_readBoth_57_1
      cases hr : sCd T n d 2 o p c with
      | inr f =>
        rw [hr] at h1
        obtain ⟨σ1, a1, b1, c1⟩ := h1
        rw [a1, Option.bind_some]
        exact ⟨σ1, rfl, b1, c1⟩
      | inl q =>
        rw [hr] at h1
        obtain ⟨σ1, a1, b1, c1, d1, e1, f1⟩ := h1
        rw [a1, Option.bind_some]
        dsimp only
        rw [if_neg (by decide)]
        have hPb1 := b1.2.2.1
        exact ((ih 4 o q.1 q.2 σ1 s (by decide) b1 c1 hs e1 ho1 ho2 (by show 4 * (n - q.1) + 1 < _; omega)).2.2 rfl g 4096 0 (by omega) (Int.le_refl _) (by omega) (by omega)).fr d1 f1
    | 2, _, hd9 =>
      refine ⟨fun _ g hg => ?_, fun h => absurd h (by decide), fun h => absurd h (by decide)⟩
      obtain ⟨g, rfl⟩ : ∃ k, g = k + 1 := ⟨g - 1, by omega⟩
      have hd9 : 4 * (n - p) + 1 < ((d + 1 : Nat) : Int) := hd9
      rw [sCd_2]
      have e : rdC (g + 1) 2 o σ = f_Law_readTest_57_1 (rdC g) o σ := by
        rw [rdC]
        all_goals decide
      rw [e]
      unfold f_Law_readTest_57_1
      rw [c_sign hP, Option.bind_some]
      dsimp only
      by_cases h33 : hd T n p = 33
      · have hp : p < n := hd_in (T := T) (by omega)
        rw [if_pos h33, if_pos h33, c_opn hP hp]
        by_cases ho : 6 ≤ o
        · rw [if_neg (by omega), if_pos ho, Option.bind_some]
          exact ⟨pU σ 1 4 (-1000 * 5 - p), rfl, pU_s _ _ _ _, FR.u (Or.inl rfl)⟩
        · rw [if_pos (by omega), if_neg ho, Option.bind_some]
          dsimp only
          rw [if_neg (by decide), pw_id (by omega) (by omega)]
          have h1 := (ih 2 (o + 1) (p + 1) c (pU σ 1 3 (p + 1)) (s + 1) (by decide) (hP.go (by omega) (by omega)) (hC.mv (CO.u _ _)) (by omega) (by omega) (by omega) (by omega) (by show 4 * (n - (p + 1)) + 1 < _; omega)).1 (by decide) g (by omega)
          cases hr2 : sCd T n d 2 (o + 1) (p + 1) c with
          | inr f =>
            rw [hr2] at h1
            obtain ⟨σ1, a1, b1, c1⟩ := h1
            rw [a1, Option.bind_some]
            exact ⟨σ1, rfl, b1, FR.tr (FR.u (Or.inl rfl)) c1⟩
          | inl q =>
            rw [hr2] at h1
            obtain ⟨σ1, a1, b1, c1, d1, e1, f1⟩ := h1
            rw [a1, Option.bind_some]
            dsimp only
            rw [if_neg (by decide)]
            have hPb1 := b1.2.2.1
            obtain ⟨σ2, a2, b2, c2, d2⟩ := c_add c1 b1 (by omega) 33 0
            rw [a2, Option.bind_some]
            have hd1 : FR PL σ σ2 := (FR.tr (FR.u (Or.inl rfl)) d1).tr d2
            exact ⟨σ2, rfl, c2, b2, hd1, by rw [List.length_append]; simp; omega, by dsimp only; omega⟩
      · rw [if_neg h33, if_neg h33, c_sign hP, Option.bind_some]
        dsimp only
        by_cases h40 : hd T n p = 40
        · have hp : p < n := hd_in (T := T) (by omega)
          rw [if_pos h40, if_pos h40, c_opn hP hp]
          by_cases ho : 6 ≤ o
          · rw [if_neg (by omega), if_pos ho, Option.bind_some]
            exact ⟨pU σ 1 4 (-1000 * 5 - p), rfl, pU_s _ _ _ _, FR.u (Or.inl rfl)⟩
          · rw [if_pos (by omega), if_neg ho, Option.bind_some]
            dsimp only
            rw [if_neg (by decide), pw_id (by omega) (by omega)]
            have h1 := (ih 0 (o + 1) (p + 1) c (pU σ 1 3 (p + 1)) s (by decide) (hP.go (by omega) (by omega)) (hC.mv (CO.u _ _)) hs (by omega) (by omega) (by omega) (by show 4 * (n - (p + 1)) + 3 < _; omega)).1 (by decide) g (by omega)
            cases hr2 : sCd T n d 0 (o + 1) (p + 1) c with
            | inr f =>
              rw [hr2] at h1
              obtain ⟨σ1, a1, b1, c1⟩ := h1
              rw [a1, Option.bind_some]
              exact ⟨σ1, rfl, b1, FR.tr (FR.u (Or.inl rfl)) c1⟩
            | inl q =>
              rw [hr2] at h1
              obtain ⟨σ1, a1, b1, c1, d1, e1, f1⟩ := h1
              rw [a1, Option.bind_some]
              dsimp only
              rw [if_neg (by decide)]
              have hPb1 := b1.2.2.1
              by_cases h41 : hd T n q.1 = 41
              · obtain ⟨σ2, a2, b2, c2⟩ := c_acc1 b1 h41 (by decide)
                rw [if_pos h41, a2, Option.bind_some]
                dsimp only
                rw [if_neg (by decide)]
                have hd1 : FR PL σ σ2 := (FR.tr (FR.u (Or.inl rfl)) d1).tr c2.pl
                exact ⟨σ2, rfl, b2, c1.mv c2, hd1, by dsimp only; omega, by dsimp only; omega⟩
              · obtain ⟨σ2, a2, b2, c2⟩ := c_acc0 b1 h41
                rw [if_neg h41, a2, Option.bind_some]
                have hd1 : FR PL σ σ2 := (FR.tr (FR.u (Or.inl rfl)) d1).tr c2.pl
                exact ⟨σ2, rfl, b2, hd1⟩
        · rw [if_neg h40, if_neg h40]
          have h1 := c_expr hT (o := o) (s := s) hP hC hs hl ho1 ho2
          cases hr : sXp T n 1000 0 o p c with
          | inr f =>
            rw [hr] at h1
            obtain ⟨σ1, a1, b1, c1⟩ := h1
            rw [a1, Option.bind_some]
            exact ⟨σ1, rfl, b1, c1⟩
          | inl q =>
            rw [hr] at h1
            obtain ⟨σ1, a1, b1, c1, d1, e1, f1⟩ := h1
            have hPb1 := b1.2.2.1
            rw [a1, Option.bind_some]
            dsimp only
            rw [if_neg (by decide), c_sign b1, Option.bind_some]
            dsimp only
            have e9 : (hd T n q.1 = 60 ∨ hd T n q.1 = 62 ∨ hd T n q.1 = 61) → cEnd T n σ (f_Law_readTest_57_1_p123 (rdC g) o (hd T n q.1) σ1) (match sXp T n 1000 0 o (q.1 + 1) q.2 with
                | .inr f => .inr f
                | .inl u => .inl (u.1, u.2 ++ [(hd T n q.1, 0)])) (p + 1) s := by
              intro hq
              have hp : q.1 < n := hd_in (T := T) (by omega)
              obtain ⟨hs1, hs2⟩ := c_step b1 hp
              unfold f_Law_readTest_57_1_p123
              rw [hs1, Option.bind_some]
              dsimp only
              have h2 := c_expr hT (o := o) (s := s + 1) hs2 (c1.mv (CO.u _ _)) (by omega) (by omega) ho1 ho2
              cases hr2 : sXp T n 1000 0 o (q.1 + 1) q.2 with
              | inr f =>
                rw [hr2] at h2
                obtain ⟨σ2, a2, b2, c2⟩ := h2
                rw [a2, Option.bind_some]
                exact ⟨σ2, rfl, b2, (d1.tr (FR.u (Or.inl rfl))).tr c2⟩
              | inl u =>
                rw [hr2] at h2
                obtain ⟨σ2, a2, b2, c2, d2, e2, f2⟩ := h2
                have hPb2 := b2.2.2.1
                rw [a2, Option.bind_some]
                dsimp only
                rw [if_neg (by decide)]
                obtain ⟨σ3, a3, b3, c3, d3⟩ := c_add c2 b2 (by omega) (hd T n q.1) 0
                rw [a3, Option.bind_some]
                have hd1 : FR PL σ σ3 := ((d1.tr (FR.u (Or.inl rfl))).tr d2).tr d3
                exact ⟨σ3, rfl, c3, b3, hd1, by rw [List.length_append]; simp; omega, by dsimp only; omega⟩
            by_cases h60 : hd T n q.1 = 60
            · rw [if_pos h60, if_pos (Or.inl h60)]
              exact e9 (Or.inl h60)
            · by_cases h62 : hd T n q.1 = 62
              · rw [if_neg h60, if_pos h62, if_pos (Or.inr (Or.inl h62))]
                exact e9 (Or.inr (Or.inl h62))
              · by_cases h61 : hd T n q.1 = 61
                · rw [if_neg h60, if_neg h62, if_pos h61, if_pos (Or.inr (Or.inr h61))]
                  exact e9 (Or.inr (Or.inr h61))
                · rw [if_neg h60, if_neg h62, if_neg h61, if_neg (by omega), c_fail b1 (by omega), Option.bind_some]
                  dsimp only
                  rw [if_pos (by decide)]
                  exact ⟨_, rfl, pU_s _ _ _ _, d1.tr (FR.u (Or.inl rfl))⟩
    | 3, _, hd9 =>
      refine ⟨fun h => absurd h (by decide), fun _ g fu k hg hk0 hk hfu => ?_, fun h => absurd h (by decide)⟩
      obtain ⟨fu, rfl⟩ : ∃ k, fu = k + 1 := ⟨fu - 1, by omega⟩
      have hd9 : 4 * (n - p) + 1 < ((d + 1 : Nat) : Int) := hd9
      rw [sCd_3, f_Law_readEither_57_1_p13, if_neg (by omega), c_sign hP, Option.bind_some]
      dsimp only
      by_cases hc : hd T n p = 124
      · have hp : p < n := hd_in (T := T) (by omega)
        obtain ⟨hs1, hs2⟩ := c_step hP hp
        rw [if_pos hc, if_pos hc, hs1, Option.bind_some]
        dsimp only
        obtain ⟨σ1, a1, b1, c1, d1⟩ := c_add (hC.mv (CO.u _ _)) hs2 (by omega) 124 0
        rw [a1, Option.bind_some]
        dsimp only
        have h1 := (ih 1 o (p + 1) (c ++ [(124, 0)]) σ1 s (by decide) c1 b1 hs (by rw [List.length_append]; simp; omega) ho1 ho2 (by show 4 * (n - (p + 1)) + 2 < _; omega)).1 (by decide) g (by omega)
        cases hr2 : sCd T n d 1 o (p + 1) (c ++ [(124, 0)]) with
        | inr f =>
          rw [hr2] at h1
          obtain ⟨σ2, a2, b2, c2⟩ := h1
          rw [a2, Option.bind_some]
          exact ⟨σ2, rfl, b2, (FR.tr (FR.u (Or.inl rfl)) d1).tr c2⟩
        | inl q =>
          rw [hr2] at h1
          obtain ⟨σ2, a2, b2, c2, d2, e2, f2⟩ := h1
          rw [a2, Option.bind_some]
          dsimp only
          rw [if_neg (by decide)]
          have hPb2 := b2.2.2.1
          obtain ⟨hm, _⟩ := (sCd_pre d 1 _ _ _ q (by decide) hr2).mark
          obtain ⟨σ3, a3, b3, c3, d3⟩ := c_skip c2 b2 (by omega) hm
          rw [a3, Option.bind_some]
          dsimp only
          rw [pw_id (by omega) (by omega)]
          have hd1 : FR PL σ σ3 := ((FR.tr (FR.u (Or.inl rfl)) d1).tr d2).tr d3
          exact ((ih 3 o q.1 (q.2.set c.length (124, (q.2.length : Int))) σ3 s (by decide) c3 b3 hs (by rw [List.length_set]; exact e2) ho1 ho2 (by show 4 * (n - q.1) + 1 < _; omega)).2.1 rfl g fu (k + 1) hg (by omega) (by omega) (by omega)).fr hd1 (by omega)
      · rw [if_neg hc, if_neg hc]
        exact ⟨σ, rfl, hP, hC, FR.rf _ _, hl, Int.le_refl _⟩
    | 4, _, hd9 =>
      refine ⟨fun h => absurd h (by decide), fun h => absurd h (by decide), fun _ g fu k hg hk0 hk hfu => ?_⟩
      obtain ⟨fu, rfl⟩ : ∃ k, fu = k + 1 := ⟨fu - 1, by omega⟩
      have hd9 : 4 * (n - p) + 1 < ((d + 1 : Nat) : Int) := hd9
      rw [sCd_4, f_Law_readBoth_57_1_p13, if_neg (by omega), c_sign hP, Option.bind_some]
      dsimp only
      by_cases hc : hd T n p = 38
      · have hp : p < n := hd_in (T := T) (by omega)
        obtain ⟨hs1, hs2⟩ := c_step hP hp
        rw [if_pos hc, if_pos hc, hs1, Option.bind_some]
        dsimp only
        obtain ⟨σ1, a1, b1, c1, d1⟩ := c_add (hC.mv (CO.u _ _)) hs2 (by omega) 38 0
        rw [a1, Option.bind_some]
        dsimp only
        have h1 := (ih 2 o (p + 1) (c ++ [(38, 0)]) σ1 s (by decide) c1 b1 hs (by rw [List.length_append]; simp; omega) ho1 ho2 (by show 4 * (n - (p + 1)) + 1 < _; omega)).1 (by decide) g (by omega)
        cases hr2 : sCd T n d 2 o (p + 1) (c ++ [(38, 0)]) with
        | inr f =>
          rw [hr2] at h1
          obtain ⟨σ2, a2, b2, c2⟩ := h1
          rw [a2, Option.bind_some]
          exact ⟨σ2, rfl, b2, (FR.tr (FR.u (Or.inl rfl)) d1).tr c2⟩
        | inl q =>
          rw [hr2] at h1
          obtain ⟨σ2, a2, b2, c2, d2, e2, f2⟩ := h1
          rw [a2, Option.bind_some]
          dsimp only
          rw [if_neg (by decide)]
          have hPb2 := b2.2.2.1
          obtain ⟨hm, _⟩ := (sCd_pre d 2 _ _ _ q (by decide) hr2).mark
          obtain ⟨σ3, a3, b3, c3, d3⟩ := c_skip c2 b2 (by omega) hm
          rw [a3, Option.bind_some]
          dsimp only
          rw [pw_id (by omega) (by omega)]
          have hd1 : FR PL σ σ3 := ((FR.tr (FR.u (Or.inl rfl)) d1).tr d2).tr d3
          exact ((ih 4 o q.1 (q.2.set c.length (38, (q.2.length : Int))) σ3 s (by decide) c3 b3 hs (by rw [List.length_set]; exact e2) ho1 ho2 (by show 4 * (n - q.1) + 1 < _; omega)).2.2 rfl g fu (k + 1) hg (by omega) (by omega) (by omega)).fr hd1 (by omega)
      · rw [if_neg hc, if_neg hc]
        exact ⟨σ, rfl, hP, hC, FR.rf _ _, hl, Int.le_refl _⟩
section CN
variable {T : Nat → Int} {n p o : Int} {c : Cd} {K : Ks} {τ : pS}
theorem ML.set {τ τ' : pS} {c : Cd} (h : ML τ c) {i : Nat} {s x v : Int} (hi : c[i]? = some (s, x)) (hv : 0 ≤ v ∧ v < 1048576) (e1 : τ' 84 24 = τ 84 24) (e2 : τ' 97 i = 1048576 * mop s + v) (e3 : ∀ j, j ≠ i → τ' 97 j = τ 97 j) : ML τ' (c.set i (s, v)) := by
  have hlt := (List.getElem?_eq_some_iff.mp hi).1
  refine ⟨by rw [e1, h.1, List.length_set], fun j q hq => ?_⟩
  by_cases hj : j = i
  · subst hj
    rw [List.getElem?_set_self hlt] at hq
    cases hq
    exact ⟨e2, hv⟩
  · rw [List.getElem?_set_ne (Ne.symm hj)] at hq
    rw [e3 j hj]
    exact h.2 j q hq
theorem m_l22 {op a : Int} {i : Nat} {s x : Int} {k0 : Int → pS → Option (Int × pS)} (h : ST τ T n p c (K ++ [(op, (i : Int))]) o) (hi : c[i]? = some (s, x)) (hl : K.length < 260) (hc : c.length ≤ 260) : ∃ τ', f_M_lands_84_p22 k0 a τ = k0 a τ' ∧ ST τ' T n p (c.set i (s, (c.length : Int))) K o ∧ FR QL τ τ' := by
  obtain ⟨h1, hM, hK, h6⟩ := h
  have hlt := (List.getElem?_eq_some_iff.mp hi).1
  obtain ⟨g1, g2, g3⟩ := hM.2 i _ hi
  obtain ⟨k1, k2, k3, k4⟩ := hK.last
  dsimp only at g1 g2 g3 k2 k3 k4
  have hm := mop_r s
  have hb := h1.2.2.1
  have er : pRem (τ 98 K.length) 1048576 = (i : Int) := by rw [k2]; exact unit_rem k3 k4
  have ed : pDiv (τ 97 i) 1048576 = mop s := by rw [g1]; exact unit_div (by omega) ⟨g2, g3⟩
  refine ⟨pU (pU τ 97 i (1048576 * mop s + (c.length : Int))) 84 25 (K.length : Int), ?_, ⟨?_, ?_, ?_, ?_⟩, (FR.u (Or.inr (Or.inl rfl))).tr (FR.u (Or.inl ⟨rfl, by decide⟩))⟩
  · unfold f_M_lands_84_p22
    rw [k1, pw_id (z := (K.length : Int) + 1 - 1) (by omega) (by omega), show (K.length : Int) + 1 - 1 = (K.length : Int) by omega, Int.toNat_natCast, er, if_pos (by omega), if_pos (by omega), if_pos (by omega), Int.toNat_natCast, ed, hM.1, pw_id (z := 1048576 * mop s) (by omega) (by omega), pw_id (z := 1048576 * mop s + (c.length : Int)) (by omega) (by omega)]
  · exact h1.at ((pU_i _ _ _ _ (by decide)).trans ((pU_c _ _ _ _ (by decide)).trans h1.1)) ((pU_i _ _ _ _ (by decide)).trans (pU_c _ _ _ _ (by decide))) (fun i => (pU_c _ _ _ _ (by decide)).trans (pU_c _ _ _ _ (by decide))) h1.2.2.1.1 h1.2.2.1.2.1
  · exact hM.set hi (by omega) ((pU_i _ _ _ _ (by decide)).trans (pU_c _ _ _ _ (by decide))) ((pU_c _ _ _ _ (by decide)).trans (pU_s _ _ _ _)) (fun j hj => (pU_c _ _ _ _ (by decide)).trans (pU_i _ _ _ _ hj))
  · exact hK.pop (by rw [pU_s, k1]; omega) (fun j => (pU_c _ _ _ _ (by decide)).trans (pU_c _ _ _ _ (by decide)))
  · exact (pU_i _ _ _ _ (by decide)).trans ((pU_c _ _ _ _ (by decide)).trans h6)
/-- a jump that waits: its place -/
def jk (op : Int) (X : Option Nat) : Ks := match X with
  | none => []
  | some i => [(op, (i : Int))]
def pch (s : Int) (X : Option Nat) (c : Cd) : Cd := match X with
  | none => c
  | some i => c.set i (s, (c.length : Int))
def mk (s : Int) (X : Option Nat) (c : Cd) : Prop := ∀ i, X = some i → ∃ x, c[i]? = some (s, x)
theorem pch_len {s : Int} {X : Option Nat} {c : Cd} : (pch s X c).length = c.length := by
  unfold pch
  split
  · rfl
  · rw [List.length_set]
theorem jk_len {op : Int} {X : Option Nat} : (jk op X).length ≤ 1 := by
  unfold jk
  split
  · exact Nat.zero_le _
  · exact Nat.le_refl _
theorem la_x {X : Option Nat} {op s all : Int} {fu : Nat} (h : ST τ T n p c (K ++ jk op X) o) (hX : mk s X c) (hop : op = 11 ∨ (op = 12 ∧ all = 1)) (hl : K.length < 258) (hc : c.length < 258) : ∃ (fu' : Nat) (τ' : pS), fu ≤ fu' ∧ f_M_lands_84_p0 (fu + 1) all τ = f_M_lands_84_p0 fu' all τ' ∧ ST τ' T n p (pch s X c) K o ∧ FR QL τ τ' := by
  cases X with
  | none =>
    rw [show K ++ jk op none = K from List.append_nil K] at h
    exact ⟨fu + 1, τ, Nat.le_succ _, rfl, h, FR.rf _ _⟩
  | some i =>
    obtain ⟨x, hx⟩ := hX i rfl
    have h : ST τ T n p c (K ++ [(op, (i : Int))]) o := h
    obtain ⟨τ', a, b, d⟩ := m_l22 (k0 := f_M_lands_84_p0 fu) (a := all) h hx (by omega) (by omega)
    have ht := m_top h.2.2.1 (by rw [List.length_append]; simp; omega)
    rw [tp_s] at ht
    refine ⟨fu, τ', Nat.le_refl _, ?_, b, d⟩
    rw [f_M_lands_84_p0, ht, Option.bind_some]
    dsimp only
    rcases hop with rfl | ⟨rfl, rfl⟩
    · rw [if_pos rfl, a]
    · rw [if_neg (by decide), if_neg (by decide), ht, Option.bind_some]
      dsimp only
      rw [if_pos rfl, a]
theorem lan_0 {all : Int} {fu : Nat} (h : ST τ T n p c K o) (hl : K.length ≤ 260) (h1 : tp K ≠ 11) (h2 : all = 0 ∨ (all = 1 ∧ tp K ≠ 12)) : f_M_lands_84_p0 (fu + 1) all τ = some (0, τ) := by
  have ht := m_top h.2.2.1 hl
  rw [f_M_lands_84_p0, ht, Option.bind_some]
  dsimp only
  rw [if_neg h1]
  rcases h2 with rfl | ⟨rfl, h3⟩
  · rw [if_pos rfl]
  · rw [if_neg (by decide), ht, Option.bind_some]
    dsimp only
    rw [if_neg h3]
theorem la_and {N : Option Nat} (h : ST τ T n p c (K ++ jk 11 N) o) (hN : mk 38 N c) (hl : K.length < 258) (hc : c.length < 258) (h1 : tp K ≠ 11) : ∃ τ', f_M_lands_84 0 τ = some (0, τ') ∧ ST τ' T n p (pch 38 N c) K o ∧ FR QL τ τ' := by
  obtain ⟨f1, τ1, l1, a1, b1, c1⟩ := la_x (fu := 4095) (all := 0) h hN (Or.inl rfl) hl hc
  obtain ⟨f1, rfl⟩ : ∃ k, f1 = k + 1 := ⟨f1 - 1, by omega⟩
  refine ⟨τ1, ?_, b1, c1⟩
  have e : f_M_lands_84 0 τ = f_M_lands_84_p0 (4095 + 1) 0 τ := rfl
  rw [e, a1]
  exact lan_0 b1 (by omega) h1 (Or.inl rfl)
theorem la_all {O N : Option Nat} (h : ST τ T n p c (K ++ jk 12 O ++ jk 11 N) o) (hO : mk 124 O (pch 38 N c)) (hN : mk 38 N c) (hl : K.length < 257) (hc : c.length < 258) (h1 : tp K ≠ 11) (h2 : tp K ≠ 12) : ∃ τ', f_M_lands_84 1 τ = some (0, τ') ∧ ST τ' T n p (pch 124 O (pch 38 N c)) K o ∧ FR QL τ τ' := by
  obtain ⟨f1, τ1, l1, a1, b1, c1⟩ := la_x (fu := 4095) (all := 1) h hN (Or.inl rfl) (by rw [List.length_append]; have := jk_len (op := 12) (X := O); omega) hc
  obtain ⟨f1, rfl⟩ : ∃ k, f1 = k + 1 := ⟨f1 - 1, by omega⟩
  obtain ⟨f2, τ2, l2, a2, b2, c2⟩ := la_x (fu := f1) (all := 1) b1 hO (Or.inr ⟨rfl, rfl⟩) (by omega) (by rw [pch_len]; exact hc)
  obtain ⟨f2, rfl⟩ : ∃ k, f2 = k + 1 := ⟨f2 - 1, by omega⟩
  refine ⟨τ2, ?_, b2, c1.tr c2⟩
  have e : f_M_lands_84 1 τ = f_M_lands_84_p0 (4095 + 1) 1 τ := rfl
  rw [e, a1, a2]
  exact lan_0 b2 (by omega) h1 (Or.inr ⟨rfl, h2⟩)
theorem m_jmp (h : ST τ T n p c K o) (hp : p < n) (hl : K.length < 260) (hc : c.length < 260) {s op : Int} (hs : mop s = op) : ∃ τ', f_M_jumps_84 op τ = some (0, τ') ∧ ST τ' T n (p + 1) (c ++ [(s, 0)]) (K ++ [(op, (c.length : Int))]) o ∧ FR QL τ τ' := by
  obtain ⟨h1, hM, hK, h6⟩ := h
  have hb := h1.2.2.1
  have hm := mop_r s
  have hpush : ST (pU (pU τ 98 K.length (1048576 * op + (c.length : Int))) 84 25 ((K.length : Int) + 1)) T n p c (K ++ [(op, (c.length : Int))]) o := by
    refine ⟨?_, ⟨?_, fun i q hq => ?_⟩, ?_, ?_⟩
    · exact h1.at (by simp [pU, h1.1]) (by simp [pU]) (fun i => by simp [pU]) hb.1 hb.2.1
    · simp [pU, hM.1]
    · rw [show pU (pU τ 98 K.length (1048576 * op + (c.length : Int))) 84 25 ((K.length : Int) + 1) 97 i = τ 97 i by simp [pU]]
      exact hM.2 i q hq
    · exact hK.push (by omega) (by omega) (by simp [pU]) (by simp [pU]) (fun i hi => by simp [pU, hi])
    · simp [pU, h6]
  obtain ⟨τ1, a1, b1, c1⟩ := m_note hpush hc hs (v := 0) (by omega)
  refine ⟨pU τ1 84 19 (p + 1), ?_, b1.nx (by omega) (by omega), (((FR.u (Or.inr (Or.inr rfl))).tr (FR.u (Or.inl ⟨rfl, by decide⟩))).tr c1).tr (FR.u (Or.inl ⟨rfl, by decide⟩))⟩
  unfold f_M_jumps_84
  rw [hK.1, if_pos (by omega), hM.1, pw_id (z := 1048576 * op) (by omega) (by omega), pw_id (z := 1048576 * op + (c.length : Int)) (by omega) (by omega), pw_id (z := (K.length : Int) + 1) (by omega) (by omega), Int.toNat_natCast, a1, Option.bind_some]
  dsimp only
  rw [b1.1.1, pw_id (by omega) (by omega)]
theorem m_e1 {fu : Nat} (h : ST τ T n p c (K ++ [(10, 0)]) o) (hl : K.length < 260) (hc : c.length < 260) (ho : -1000 ≤ o ∧ o ≤ 1000) : ∃ τ', f_M_endsPiece_84_p0 (fu + 1) τ = f_M_endsPiece_84_p0 fu τ' ∧ ST τ' T n p (c ++ [(33, 0)]) K (o - 1) ∧ FR QL τ τ' := by
  have ht := m_top h.2.2.1 (by rw [List.length_append]; simp; omega)
  rw [tp_s] at ht
  obtain ⟨τ1, a1, b1, c1⟩ := m_note h hc (op := 10) (s := 33) (v := 0) (by decide) (by omega)
  have hlast := b1.2.2.1.last
  refine ⟨pU (pU τ1 84 25 (K.length : Int)) 84 23 (o - 1), ?_, ⟨?_, ⟨?_, fun i q hq => ?_⟩, ?_, ?_⟩, (c1.tr (FR.u (Or.inl ⟨rfl, by decide⟩))).tr (FR.u (Or.inl ⟨rfl, by decide⟩))⟩
  · rw [f_M_endsPiece_84_p0, ht, Option.bind_some]
    dsimp only
    rw [if_pos rfl, a1, Option.bind_some]
    dsimp only
    rw [hlast.1, b1.2.2.2, pw_id (z := (K.length : Int) + 1 - 1) (by omega) (by omega), show (K.length : Int) + 1 - 1 = (K.length : Int) by omega, pw_id (z := o - 1) (by omega) (by omega)]
  · exact b1.1.at (by simp [pU, b1.1.1]) (by simp [pU]) (fun i => by simp [pU]) b1.1.2.2.1.1 b1.1.2.2.1.2.1
  · have := b1.2.1.1
    simp [pU] at this ⊢
    exact this
  · rw [show pU (pU τ1 84 25 (K.length : Int)) 84 23 (o - 1) 97 i = τ1 97 i by simp [pU]]
    exact b1.2.1.2 i q hq
  · exact b1.2.2.1.pop (by rw [hlast.1]; simp [pU]) (fun i => by simp [pU])
  · exact pU_s _ _ _ _
theorem m_e0 {fu : Nat} (h : ST τ T n p c K o) (hl : K.length ≤ 260) (h1 : tp K ≠ 10) : f_M_endsPiece_84_p0 (fu + 1) τ = some (0, τ) := by
  have ht := m_top h.2.2.1 hl
  rw [f_M_endsPiece_84_p0, ht, Option.bind_some]
  dsimp only
  rw [if_neg h1]
end CN
def mBc (fk fu : Nat) (τ : pS) : Option (Int × pS) := f_M_readsCondition_84_p92 (f_M_readsCondition_84_p40 fk) fu τ
def mE (fk fe fu : Nat) (τ : pS) : Option (Int × pS) := (f_M_endsPiece_84_p0 fe τ).bind fun q => f_M_readsCondition_84_p92 (f_M_readsCondition_84_p40 fk) fu q.2
def tEnd (T : Nat → Int) (n o : Int) (K : Ks) (τ : pS) (F : Option (Int × pS)) (r : (Int × Cd) ⊕ Int) (lb s : Int) : Prop := match r with
  | .inr f => ∃ τ', F = some (0, τ') ∧ τ' 84 21 = f ∧ FR QL τ τ'
  | .inl q => ∃ (fk fe fu : Nat) (τ' : pS), F = mE fk fe fu τ' ∧ n - q.1 < fk ∧ (K.length : Int) < fe ∧ n - q.1 < fu ∧ ST τ' T n q.1 q.2 K o ∧ FR QL τ τ' ∧ (q.2.length : Int) + s ≤ q.1 ∧ lb ≤ q.1
def dEnd (T : Nat → Int) (n o : Int) (K : Ks) (w : Nat) (τ : pS) (F : Option (Int × pS)) (r : (Int × Cd) ⊕ Int) (lb s : Int) : Prop := match r with
  | .inr f => ∃ τ', F = some (0, τ') ∧ τ' 84 21 = f ∧ FR QL τ τ'
  | .inl q => ∃ (fk fu : Nat) (τ' : pS) (cm : Cd) (O N : Option Nat), F = mBc fk fu τ' ∧ n - q.1 < fk ∧ n - q.1 < fu ∧ ST τ' T n q.1 cm (K ++ jk 12 O ++ jk 11 N) o ∧ (mk 124 O (pch 38 N cm) ∧ mk 38 N cm) ∧ q.2 = pch 124 O (pch 38 N cm) ∧ ((w = 1 ∨ w = 4 → O = none) ∧ hd T n q.1 ≠ 38 ∧ (w = 0 ∨ w = 3 → hd T n q.1 ≠ 124)) ∧ FR QL τ τ' ∧ (q.2.length : Int) + s ≤ q.1 ∧ lb ≤ q.1
theorem dEnd.up {T : Nat → Int} {n o : Int} {K : Ks} {w w' : Nat} {τ τ1 : pS} {F F1 : Option (Int × pS)} {r : (Int × Cd) ⊕ Int} {lb lb1 s : Int} (h : dEnd T n o K w' τ1 F1 r lb1 s) (hF : F = F1) (hf : FR QL τ τ1) (hl : lb ≤ lb1) (hw : (w = 0 ∧ w' = 3) ∨ (w = 1 ∧ w' = 4) ∨ w = w') : dEnd T n o K w τ F r lb s := by
  subst hF
  cases r with
  | inr f =>
    obtain ⟨τ', a, b, c⟩ := h
    exact ⟨τ', a, b, hf.tr c⟩
  | inl q =>
    obtain ⟨fk, fu, τ', cm, O, N, h1, h2, h3, h4, h5, h6, ⟨h7, h8, h9⟩, h10, h11, h12⟩ := h
    exact ⟨fk, fu, τ', cm, O, N, h1, h2, h3, h4, h5, h6, ⟨fun e => h7 (by omega), h8, fun e => h9 (by omega)⟩, hf.tr h10, h11, by omega⟩
theorem mE_0 {T : Nat → Int} {n p o : Int} {c : Cd} {K : Ks} {τ : pS} {fk fe fu : Nat} (h : ST τ T n p c K o) (hl : K.length ≤ 260) (h1 : tp K ≠ 10) (hfe : (K.length : Int) < fe) : mE fk fe fu τ = mBc fk fu τ := by
  obtain ⟨k, rfl⟩ : ∃ k, fe = k + 1 := ⟨fe - 1, by omega⟩
  unfold mE mBc
  rw [m_e0 h hl h1, Option.bind_some]
/-- two sums and a sign between them -/
theorem m_cmp {T : Nat → Int} {n o p : Int} {c : Cd} {K : Ks} {τ : pS} (h : ST τ T n p c K o) (hNS : NS K) {s : Int} (hs : 0 ≤ s) (hl : (c.length : Int) + s ≤ p) (hk : (K.length : Int) ≤ p) (ho1 : 0 ≤ o) (ho2 : o ≤ 6) {fi : Nat} (hfi : n - p < fi + 1) : tEnd T n o K τ ((f_M_readsCompared_84 τ).bind fun q13 => (if q13.1 = 0 then (some (0, q13.2)) else (f_M_readsCondition_84_p92 (f_M_readsCondition_84_p40 fi) 4096 q13.2))) (match sXp T n 1000 0 o p c with
      | .inr f => .inr f
      | .inl q => if hd T n q.1 = 60 ∨ hd T n q.1 = 62 ∨ hd T n q.1 = 61 then (match sXp T n 1000 0 o (q.1 + 1) q.2 with
          | .inr f => .inr f
          | .inl u => .inl (u.1, u.2 ++ [(hd T n q.1, 0)])) else .inr (-1000 * 1 - q.1)) (p + 1) s := by
  have hPb := h.1.2.2.1
  have h1 := m_expr h hNS hs hl hk ho1 ho2
  unfold f_M_readsCompared_84
  cases hr : sXp T n 1000 0 o p c with
  | inr f =>
    rw [hr] at h1
    obtain ⟨τ1, a1, b1, c1⟩ := h1
    rw [a1, Option.bind_some]
    dsimp only
    rw [if_pos rfl, Option.bind_some]
    exact ⟨τ1, rfl, b1, c1⟩
  | inl q =>
    rw [hr] at h1
    obtain ⟨τ1, a1, b1, c1, d1, e1⟩ := h1
    have hb1 := b1.1.2.2.1
    rw [a1, Option.bind_some]
    dsimp only
    rw [if_neg (by decide), m_here b1.1, Option.bind_some]
    dsimp only
    have e9 : (hd T n q.1 = 60 ∨ hd T n q.1 = 62 ∨ hd T n q.1 = 61) → tEnd T n o K τ ((f_M_readsCompared_84_p52 (mop (hd T n q.1)) τ1).bind fun q13 => (if q13.1 = 0 then (some (0, q13.2)) else (f_M_readsCondition_84_p92 (f_M_readsCondition_84_p40 fi) 4096 q13.2))) (match sXp T n 1000 0 o (q.1 + 1) q.2 with
          | .inr f => .inr f
          | .inl u => .inl (u.1, u.2 ++ [(hd T n q.1, 0)])) (p + 1) s := by
      intro hq
      have hp : q.1 < n := hd_in (T := T) (by omega)
      have hm := mop_r (hd T n q.1)
      unfold f_M_readsCompared_84_p52
      rw [if_neg (by omega), b1.1.1, pw_id (by omega) (by omega)]
      have h2 := m_expr (b1.nx (q := q.1 + 1) (by omega) (by omega)) hNS (s := s + 1) (by omega) (by omega) (by omega) ho1 ho2
      cases hr2 : sXp T n 1000 0 o (q.1 + 1) q.2 with
      | inr f =>
        rw [hr2] at h2
        obtain ⟨τ2, a2, b2, c2⟩ := h2
        rw [a2, Option.bind_some]
        dsimp only
        rw [if_pos rfl, Option.bind_some]
        exact ⟨τ2, rfl, b2, (c1.tr (FR.u (Or.inl ⟨rfl, by decide⟩))).tr c2⟩
      | inl u =>
        rw [hr2] at h2
        obtain ⟨τ2, a2, b2, c2, d2, e2⟩ := h2
        have hb2 := b2.1.2.2.1
        rw [a2, Option.bind_some]
        dsimp only
        rw [if_neg (by decide)]
        obtain ⟨τ3, a3, b3, c3⟩ := m_note b2 (by omega) (s := hd T n q.1) (v := 0) rfl (by omega)
        rw [a3, Option.bind_some]
        dsimp only
        refine ⟨fi, 4096, 4096, τ3, ?_, by dsimp only; omega, by omega, by dsimp only; omega, b3, ((c1.tr (FR.u (Or.inl ⟨rfl, by decide⟩))).tr c2).tr c3, by rw [List.length_append]; simp; omega, by dsimp only; omega⟩
        unfold mE f_M_endsPiece_84
        cases f_M_endsPiece_84_p0 4096 τ3 <;> rfl
    by_cases h60 : hd T n q.1 = 60
    · rw [if_pos h60, if_pos (Or.inl h60)]
      have := e9 (Or.inl h60)
      rw [show mop (hd T n q.1) = 7 by rw [h60]; decide] at this
      exact this
    · by_cases h62 : hd T n q.1 = 62
      · rw [if_neg h60, m_here b1.1, Option.bind_some]
        dsimp only
        rw [if_pos h62, if_pos (Or.inr (Or.inl h62))]
        have := e9 (Or.inr (Or.inl h62))
        rw [show mop (hd T n q.1) = 8 by rw [h62]; decide] at this
        exact this
      · by_cases h61 : hd T n q.1 = 61
        · rw [if_neg h60, m_here b1.1, Option.bind_some]
          dsimp only
          rw [if_neg h62, m_here b1.1, Option.bind_some]
          dsimp only
          rw [if_pos h61, if_pos (Or.inr (Or.inr h61))]
          have := e9 (Or.inr (Or.inr h61))
          rw [show mop (hd T n q.1) = 9 by rw [h61]; decide] at this
          exact this
        · rw [if_neg h60, m_here b1.1, Option.bind_some]
          dsimp only
          rw [if_neg h62, m_here b1.1, Option.bind_some]
          dsimp only
          rw [if_neg h61, if_neg (by omega)]
          unfold f_M_readsCompared_84_p52
          rw [if_pos rfl, b1.1.1, m_wrong (by omega) (by omega), Option.bind_some]
          dsimp only
          rw [if_pos (by decide), Option.bind_some]
          dsimp only
          rw [if_pos rfl]
          exact ⟨_, rfl, pU_s _ _ _ _, c1.tr (FR.u (Or.inl ⟨rfl, by decide⟩))⟩
