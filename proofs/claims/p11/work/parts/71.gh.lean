/-- how high the stack stands ahead of code i (-1: one number alone, 0 or 1) -/
def OKc (K : Nat → Int) (b i : Nat) (s v : Int) : Prop :=
  ((s = 48 ∨ (s = 97 ∧ 0 ≤ v ∧ v < 7)) ∧ 0 ≤ K i ∧ K i ≤ 30 ∧ K (i + 1) = K i + 1) ∨
  ((s = 43 ∨ s = 45 ∨ s = 42 ∨ s = 47 ∨ s = 37) ∧ 2 ≤ K i ∧ K i ≤ 31 ∧ K (i + 1) = K i - 1) ∨
  ((s = 60 ∨ s = 62 ∨ s = 61) ∧ K i = 2 ∧ K (i + 1) = -1) ∨
  (s = 33 ∧ K i = -1 ∧ K (i + 1) = -1) ∨
  ((s = 38 ∨ s = 124) ∧ K i = -1 ∧ K (i + 1) = 0 ∧ (i : Int) < v ∧ v ≤ (b : Int) ∧ K v.toNat = -1)
def WT (c : Cd) (K : Nat → Int) (a b : Nat) : Prop := ∀ i, a ≤ i → i < b → ∃ s v, c[i]? = some (s, v) ∧ OKc K b i s v
theorem OKc.cg {K K' : Nat → Int} {b b' i : Nat} {s v : Int} (h : OKc K b i s v) (hb : b ≤ b') (e : ∀ j, i ≤ j → j ≤ b → K' j = K j) (hi : i < b) : OKc K' b' i s v := by
  unfold OKc at *
  rw [e i (Nat.le_refl _) (by omega), e (i + 1) (by omega) (by omega)]
  rcases h with h | h | h | h | ⟨x1, x2, x3, x4, x5, x6⟩
  · exact Or.inl h
  · exact Or.inr (Or.inl h)
  · exact Or.inr (Or.inr (Or.inl h))
  · exact Or.inr (Or.inr (Or.inr (Or.inl h)))
  · exact Or.inr (Or.inr (Or.inr (Or.inr ⟨x1, x2, x3, x4, by omega, by rw [e v.toNat (by omega) (by omega)]; exact x6⟩)))
def jn (K1 K2 : Nat → Int) (m : Nat) : Nat → Int := fun i => if i ≤ m then K1 i else K2 i
theorem jn_lo (K1 K2 : Nat → Int) {m i : Nat} (h : i ≤ m) : jn K1 K2 m i = K1 i := if_pos h
theorem jn_hi {K1 K2 : Nat → Int} {m : Nat} (e : K1 m = K2 m) {i : Nat} (h : m ≤ i) : jn K1 K2 m i = K2 i := by
  unfold jn
  by_cases q : i ≤ m
  · have : i = m := by omega
    rw [if_pos q, this, e]
  · rw [if_neg q]
theorem WT.jn {c1 c2 : Cd} {K1 K2 : Nat → Int} {a m b : Nat} (h1 : WT c1 K1 a m) (hp : ∀ i, i < m → c2[i]? = c1[i]?) (h2 : WT c2 K2 m b) (e : K1 m = K2 m) (hmb : m ≤ b) : WT c2 (jn K1 K2 m) a b := by
  intro i ha hb
  by_cases hi : i < m
  · obtain ⟨s, v, hc, ho⟩ := h1 i ha hi
    exact ⟨s, v, (hp i hi).trans hc, ho.cg hmb (fun j _ h => jn_lo _ _ h) hi⟩
  · obtain ⟨s, v, hc, ho⟩ := h2 i (by omega) hb
    exact ⟨s, v, hc, ho.cg (Nat.le_refl _) (fun j h _ => jn_hi e (by omega)) hb⟩
theorem WT.pre {c c' : Cd} {K : Nat → Int} {a b : Nat} (h : WT c K a b) (hp : Pre c c') : WT c' K a b := by
  intro i ha hb
  obtain ⟨s, v, hc, ho⟩ := h i ha hb
  have hl : i < c.length := (List.getElem?_eq_some_iff.mp hc).1
  exact ⟨s, v, (hp.2 i hl).trans hc, ho⟩
def st1 (n : Nat) (u u' : Int) : Nat → Int := fun i => if i ≤ n then u else u'
theorem st1_0 (n : Nat) (u u' : Int) : st1 n u u' n = u := if_pos (Nat.le_refl _)
theorem st1_1 (n : Nat) (u u' : Int) : st1 n u u' (n + 1) = u' := if_neg (by omega)
theorem WT.one {c : Cd} {s v u u' : Int} (h : OKc (st1 c.length u u') (c.length + 1) c.length s v) : WT (c ++ [(s, v)]) (st1 c.length u u') c.length (c.length + 1) := by
  intro i ha hb
  have : i = c.length := by omega
  subst this
  exact ⟨s, v, by rw [List.getElem?_append_right (Nat.le_refl _)]; simp, h⟩
def wx (w : Nat) : Int := match w with
  | 0 => 0
  | 1 => 1
  | 2 => 2
  | 3 => 0
  | _ => 1
def kst (w : Nat) (u : Int) : Int := match w with
  | 0 => u
  | 1 => u
  | 2 => u
  | _ => u + 1
theorem pIdx_lt (c : Int) : pIdx c < 7 := by
  unfold pIdx
  repeat' split
  all_goals decide
/-- codes c to c', from one height to another -/
def Sg (c c' : Cd) (u v : Int) : Prop := Pre c c' ∧ ∃ K, WT c' K c.length c'.length ∧ K c.length = u ∧ K c'.length = v
theorem Sg.rf (c : Cd) (u : Int) : Sg c c u u := ⟨Pre.rf _, fun _ => u, fun i h1 h2 => absurd h1 (by omega), rfl, rfl⟩
theorem Sg.tr {a b c : Cd} {u v w : Int} (h1 : Sg a b u v) (h2 : Sg b c v w) : Sg a c u w := by
  obtain ⟨p1, K1, w1, a1, b1⟩ := h1
  obtain ⟨p2, K2, w2, a2, b2⟩ := h2
  refine ⟨p1.tr p2, jn K1 K2 b.length, w1.jn (fun i hi => p2.2 i hi) w2 (b1.trans a2.symm) p2.1, ?_, ?_⟩
  · rw [jn_lo _ _ p1.1]; exact a1
  · rw [jn_hi (b1.trans a2.symm) p2.1]; exact b2
theorem Sg.one {c : Cd} {s v u u' : Int} (h : OKc (st1 c.length u u') (c.length + 1) c.length s v) : Sg c (c ++ [(s, v)]) u u' := by
  have e : (c ++ [(s, v)]).length = c.length + 1 := by rw [List.length_append]; rfl
  refine ⟨Pre.app _ _, st1 c.length u u', ?_, st1_0 _ _ _, ?_⟩
  · rw [e]; exact WT.one h
  · rw [e]; exact st1_1 _ _ _
theorem Sg.num {c : Cd} {s v u : Int} (h : s = 48 ∨ (s = 97 ∧ 0 ≤ v ∧ v < 7)) (h0 : 0 ≤ u) (h1 : u ≤ 30) : Sg c (c ++ [(s, v)]) u (u + 1) := Sg.one (Or.inl ⟨h, by rw [st1_0]; exact h0, by rw [st1_0]; exact h1, by rw [st1_0, st1_1]⟩)
theorem Sg.op {c : Cd} {s v u : Int} (h : s = 43 ∨ s = 45 ∨ s = 42 ∨ s = 47 ∨ s = 37) (h0 : 0 ≤ u) (h1 : u ≤ 29) : Sg c (c ++ [(s, v)]) (u + 2) (u + 1) := Sg.one (Or.inr (Or.inl ⟨h, by rw [st1_0]; omega, by rw [st1_0]; omega, by rw [st1_0, st1_1]; omega⟩))
theorem Sg.cmp {c : Cd} {s v : Int} (h : s = 60 ∨ s = 62 ∨ s = 61) : Sg c (c ++ [(s, v)]) 2 (-1) := Sg.one (Or.inr (Or.inr (Or.inl ⟨h, st1_0 _ _ _, st1_1 _ _ _⟩)))
theorem Sg.not {c : Cd} {v : Int} : Sg c (c ++ [(33, v)]) (-1) (-1) := Sg.one (Or.inr (Or.inr (Or.inr (Or.inl ⟨rfl, st1_0 _ _ _, st1_1 _ _ _⟩))))
theorem Sg.jmp {c q : Cd} {s : Int} (hs : s = 38 ∨ s = 124) (h : Sg (c ++ [(s, 0)]) q 0 (-1)) : Sg c (q.set c.length (s, (q.length : Int))) (-1) (-1) := by
  obtain ⟨hp, K, hw, ha, hb⟩ := h
  have e : (c ++ [(s, (0 : Int))]).length = c.length + 1 := by rw [List.length_append]; rfl
  rw [e] at hw ha
  have hl : c.length + 1 ≤ q.length := by rw [← e]; exact hp.1
  have el : (q.set c.length (s, (q.length : Int))).length = q.length := List.length_set
  have j0 : jn (fun _ => -1) K c.length c.length = -1 := jn_lo _ _ (Nat.le_refl _)
  have j1 : ∀ i, c.length < i → jn (fun _ => -1) K c.length i = K i := fun i hi => if_neg (by omega)
  refine ⟨((Pre.app c [(s, 0)]).tr hp).set (Nat.le_refl _) _, jn (fun _ => -1) K c.length, ?_, j0, ?_⟩
  · intro i h1 h2
    rw [el] at h2 ⊢
    by_cases hi : i = c.length
    · subst hi
      refine ⟨s, (q.length : Int), by rw [List.getElem?_set_self (by omega)], Or.inr (Or.inr (Or.inr (Or.inr ⟨hs, j0, ?_, by omega, Int.le_refl _, ?_⟩)))⟩
      · rw [j1 _ (by omega)]; exact ha
      · rw [Int.toNat_natCast, j1 _ (by omega)]; exact hb
    · obtain ⟨s', v, hc, ho⟩ := hw i (by omega) h2
      exact ⟨s', v, by rw [List.getElem?_set_ne (by omega)]; exact hc, ho.cg (Nat.le_refl _) (fun j h _ => j1 j (by omega)) h2⟩
  · rw [el, j1 _ (by omega)]; exact hb
theorem sXp_w {T : Nat → Int} {n : Int} : ∀ (d w : Nat) (o p u : Int) (c : Cd) (q : Int × Cd), w ≤ 4 → o ≤ 6 → 0 ≤ u → u ≤ 2 * o + 4 + wx w → sXp T n d w o p c = .inl q → Sg c q.2 (kst w u) (u + 1) := by
  intro d
  induction d with
  | zero =>
    intro w o p u c q hw ho h0 h1 h
    rw [sXp] at h
    cases h
  | succ d ih =>
    intro w o p u c q hw ho h0 h1 h
    match w, hw, h1 with
    | 0, _, h1 =>
      have h1 : u ≤ 2 * o + 4 + 0 := h1
      rw [sXp_0] at h
      cases hr : sXp T n d 1 o p c with
      | inr f => rw [hr] at h; cases h
      | inl r =>
        rw [hr] at h
        exact (ih 1 o p u c r (by decide) ho h0 (by show u ≤ 2 * o + 4 + 1; omega) hr).tr (ih 3 o r.1 u r.2 q (by decide) ho h0 h1 h)
    | 1, _, h1 =>
      have h1 : u ≤ 2 * o + 4 + 1 := h1
      rw [sXp_1] at h
      cases hr : sXp T n d 2 o p c with
      | inr f => rw [hr] at h; cases h
      | inl r =>
        rw [hr] at h
        exact (ih 2 o p u c r (by decide) ho h0 (by show u ≤ 2 * o + 4 + 2; omega) hr).tr (ih 4 o r.1 u r.2 q (by decide) ho h0 h1 h)
    | 2, _, h1 =>
      have h1 : u ≤ 2 * o + 4 + 2 := h1
      rw [sXp_2] at h
      by_cases h91 : hd T n p = 91
      · rw [if_pos h91] at h
        by_cases ho6 : 6 ≤ o
        · rw [if_pos ho6] at h; cases h
        · rw [if_neg ho6] at h
          cases hr : sXp T n d 0 (o + 1) (p + 1) c with
          | inr f => rw [hr] at h; cases h
          | inl r =>
            rw [hr] at h
            dsimp only at h
            by_cases h93 : hd T n r.1 = 93
            · rw [if_pos h93] at h
              cases h
              exact ih 0 (o + 1) (p + 1) u c r (by decide) (by omega) h0 (by show u ≤ 2 * (o + 1) + 4 + 0; omega) hr
            · rw [if_neg h93] at h; cases h
      · rw [if_neg h91] at h
        by_cases hg : 48 ≤ hd T n p ∧ hd T n p ≤ 57
        · rw [if_pos hg] at h
          cases hr : sNum T n 5 p with
          | inr f => rw [hr] at h; cases h
          | inl r => rw [hr] at h; cases h; exact Sg.num (Or.inl rfl) h0 (by show u ≤ 30; omega)
        · rw [if_neg hg] at h
          by_cases hi : 0 ≤ pIdx (hd T n p)
          · rw [if_pos hi] at h
            cases h
            exact Sg.num (Or.inr ⟨rfl, hi, pIdx_lt _⟩) h0 (by show u ≤ 30; omega)
          · rw [if_neg hi] at h; cases h
    | 3, _, h1 =>
      have h1 : u ≤ 2 * o + 4 + 0 := h1
      rw [sXp_3] at h
      by_cases hc : hd T n p = 43 ∨ hd T n p = 45
      · rw [if_pos hc] at h
        cases hr : sXp T n d 1 o (p + 1) c with
        | inr f => rw [hr] at h; cases h
        | inl r =>
          rw [hr] at h
          have a := ih 1 o (p + 1) (u + 1) c r (by decide) ho (by omega) (by show u + 1 ≤ 2 * o + 4 + 1; omega) hr
          have b : Sg r.2 (r.2 ++ [(hd T n p, 0)]) (u + 1 + 1) (u + 1) := by
            rw [show u + 1 + 1 = u + 2 by omega]
            exact Sg.op (by omega) h0 (by omega)
          exact (a.tr b).tr (ih 3 o r.1 u _ q (by decide) ho h0 h1 h)
      · rw [if_neg hc] at h
        cases h
        exact Sg.rf _ _
    | 4, _, h1 =>
      have h1 : u ≤ 2 * o + 4 + 1 := h1
      rw [sXp_4] at h
      by_cases hc : hd T n p = 42 ∨ hd T n p = 47 ∨ hd T n p = 37
      · rw [if_pos hc] at h
        cases hr : sXp T n d 2 o (p + 1) c with
        | inr f => rw [hr] at h; cases h
        | inl r =>
          rw [hr] at h
          have a := ih 2 o (p + 1) (u + 1) c r (by decide) ho (by omega) (by show u + 1 ≤ 2 * o + 4 + 2; omega) hr
          have b : Sg r.2 (r.2 ++ [(hd T n p, 0)]) (u + 1 + 1) (u + 1) := by
            rw [show u + 1 + 1 = u + 2 by omega]
            exact Sg.op (by omega) h0 (by omega)
          exact (a.tr b).tr (ih 4 o r.1 u _ q (by decide) ho h0 h1 h)
      · rw [if_neg hc] at h
        cases h
        exact Sg.rf _ _
def kcd (w : Nat) : Int := match w with
  | 0 => 0
  | 1 => 0
  | 2 => 0
  | _ => -1
theorem sCd_w {T : Nat → Int} {n : Int} : ∀ (d w : Nat) (o p : Int) (c : Cd) (q : Int × Cd), w ≤ 4 → 0 ≤ o → o ≤ 6 → sCd T n d w o p c = .inl q → Sg c q.2 (kcd w) (-1) := by
  intro d
  induction d with
  | zero =>
    intro w o p c q hw h0 ho h
    rw [sCd] at h
    cases h
  | succ d ih =>
    intro w o p c q hw h0 ho h
    match w, hw with
    | 0, _ =>
      rw [sCd_0] at h
      cases hr : sCd T n d 1 o p c with
      | inr f => rw [hr] at h; cases h
      | inl r =>
        rw [hr] at h
        exact (ih 1 o p c r (by decide) h0 ho hr).tr (ih 3 o r.1 r.2 q (by decide) h0 ho h)
    | 1, _ =>
      rw [sCd_1] at h
      cases hr : sCd T n d 2 o p c with
      | inr f => rw [hr] at h; cases h
      | inl r =>
        rw [hr] at h
        exact (ih 2 o p c r (by decide) h0 ho hr).tr (ih 4 o r.1 r.2 q (by decide) h0 ho h)
    | 2, _ =>
      rw [sCd_2] at h
      by_cases h33 : hd T n p = 33
      · rw [if_pos h33] at h
        by_cases ho6 : 6 ≤ o
        · rw [if_pos ho6] at h; cases h
        · rw [if_neg ho6] at h
          cases hr : sCd T n d 2 (o + 1) (p + 1) c with
          | inr f => rw [hr] at h; cases h
          | inl r =>
            rw [hr] at h
            cases h
            exact (ih 2 (o + 1) (p + 1) c r (by decide) (by omega) (by omega) hr).tr Sg.not
      · rw [if_neg h33] at h
        by_cases h40 : hd T n p = 40
        · rw [if_pos h40] at h
          by_cases ho6 : 6 ≤ o
          · rw [if_pos ho6] at h; cases h
          · rw [if_neg ho6] at h
            cases hr : sCd T n d 0 (o + 1) (p + 1) c with
            | inr f => rw [hr] at h; cases h
            | inl r =>
              rw [hr] at h
              dsimp only at h
              by_cases h41 : hd T n r.1 = 41
              · rw [if_pos h41] at h
                cases h
                exact ih 0 (o + 1) (p + 1) c r (by decide) (by omega) (by omega) hr
              · rw [if_neg h41] at h; cases h
        · rw [if_neg h40] at h
          cases hr : sXp T n 1000 0 o p c with
          | inr f => rw [hr] at h; cases h
          | inl r =>
            rw [hr] at h
            dsimp only at h
            by_cases hs : hd T n r.1 = 60 ∨ hd T n r.1 = 62 ∨ hd T n r.1 = 61
            · rw [if_pos hs] at h
              cases hr2 : sXp T n 1000 0 o (r.1 + 1) r.2 with
              | inr f => rw [hr2] at h; cases h
              | inl t =>
                rw [hr2] at h
                cases h
                have a := sXp_w 1000 0 o p 0 c r (by decide) ho (by decide) (by show (0 : Int) ≤ 2 * o + 4 + 0; omega) hr
                have b := sXp_w 1000 0 o (r.1 + 1) 1 r.2 t (by decide) ho (by decide) (by show (1 : Int) ≤ 2 * o + 4 + 0; omega) hr2
                exact (Sg.tr a b).tr (Sg.cmp hs)
            · rw [if_neg hs] at h; cases h
    | 3, _ =>
      rw [sCd_3] at h
      by_cases hc : hd T n p = 124
      · rw [if_pos hc] at h
        cases hr : sCd T n d 1 o (p + 1) (c ++ [(124, 0)]) with
        | inr f => rw [hr] at h; cases h
        | inl r =>
          rw [hr] at h
          exact (Sg.jmp (Or.inr rfl) (ih 1 o (p + 1) _ r (by decide) h0 ho hr)).tr (ih 3 o r.1 _ q (by decide) h0 ho h)
      · rw [if_neg hc] at h
        cases h
        exact Sg.rf _ _
    | 4, _ =>
      rw [sCd_4] at h
      by_cases hc : hd T n p = 38
      · rw [if_pos hc] at h
        cases hr : sCd T n d 2 o (p + 1) (c ++ [(38, 0)]) with
        | inr f => rw [hr] at h; cases h
        | inl r =>
          rw [hr] at h
          exact (Sg.jmp (Or.inl rfl) (ih 2 o (p + 1) _ r (by decide) h0 ho hr)).tr (ih 4 o r.1 _ q (by decide) h0 ho h)
      · rw [if_neg hc] at h
        cases h
        exact Sg.rf _ _
/-- a rule's codes are in order -/
def RW (c : Cd) (R : Int × Int × Int × Int) : Prop := ∃ a h b : Nat, R.2.1 = (a : Int) ∧ R.2.2.1 = (h : Int) ∧ R.2.2.2 = (b : Int) ∧ a ≤ h ∧ h ≤ b ∧ b ≤ c.length ∧ (R.1 = 100 → ∃ K, WT c K a h ∧ K a = 0 ∧ K h = 1) ∧ ∃ K, WT c K h b ∧ K h = 0 ∧ K b = -1
theorem RW.pre {c c' : Cd} {R : Int × Int × Int × Int} (h : RW c R) (hp : Pre c c') : RW c' R := by
  obtain ⟨a, m, b, e1, e2, e3, l1, l2, l3, k1, K, k2, k3, k4⟩ := h
  refine ⟨a, m, b, e1, e2, e3, l1, l2, Nat.le_trans l3 hp.1, fun q => ?_, K, k2.pre hp, k3, k4⟩
  obtain ⟨K, k5, k6⟩ := k1 q
  exact ⟨K, k5.pre hp, k6⟩
theorem sRu_w {T : Nat → Int} {n i p : Int} {c : Cd} {u : Int × Int × Int × Cd} (h : sRu T n i p c = .inl u) : Pre c u.2.2.2 ∧ RW u.2.2.2 (u.1, (c.length : Int), u.2.1, (u.2.2.2.length : Int)) := by
  unfold sRu at h
  by_cases hk : hd T n p = 100 ∨ hd T n p = 120
  · rw [if_pos hk] at h
    by_cases h16 : 16 ≤ i
    · rw [if_pos h16] at h; cases h
    · rw [if_neg h16] at h
      have fin : ∀ r : Int × Cd, Pre c r.2 → (hd T n p = 100 → ∃ K, WT r.2 K c.length r.2.length ∧ K c.length = 0 ∧ K r.2.length = 1) → (match sCo T n r.1 r.2 with
          | .inr f => (.inr f : (Int × Int × Int × Cd) ⊕ Int)
          | .inl t => .inl (hd T n p, (r.2.length : Int), t.1, t.2)) = .inl u → Pre c u.2.2.2 ∧ RW u.2.2.2 (u.1, (c.length : Int), u.2.1, (u.2.2.2.length : Int)) := fun r hp hE h => by
        cases hr : sCo T n r.1 r.2 with
        | inr f => rw [hr] at h; cases h
        | inl t =>
          rw [hr] at h
          cases h
          dsimp only
          have hs : Sg r.2 t.2 0 (-1) := by
            unfold sCo at hr
            by_cases h40 : hd T n r.1 = 40
            · rw [if_pos h40] at hr
              cases hr2 : sCd T n 1000 0 1 (r.1 + 1) r.2 with
              | inr f => rw [hr2] at hr; cases hr
              | inl t2 =>
                rw [hr2] at hr
                dsimp only at hr
                by_cases h41 : hd T n t2.1 = 41
                · rw [if_pos h41] at hr
                  cases hr
                  exact sCd_w 1000 0 1 (r.1 + 1) r.2 t2 (by decide) (by decide) (by decide) hr2
                · rw [if_neg h41] at hr; cases hr
            · rw [if_neg h40] at hr; cases hr
          obtain ⟨hp2, K, w1, w2, w3⟩ := hs
          refine ⟨hp.tr hp2, c.length, r.2.length, t.2.length, rfl, rfl, rfl, hp.1, hp2.1, Nat.le_refl _, fun q => ?_, K, w1, w2, w3⟩
          obtain ⟨K, k1, k2, k3⟩ := hE q
          exact ⟨K, k1.pre hp2, k2, k3⟩
      by_cases h100 : hd T n p = 100
      · rw [if_pos h100] at h
        cases hr : sXp T n 1000 0 0 (p + 1) c with
        | inr f => rw [hr] at h; cases h
        | inl r =>
          rw [hr] at h
          obtain ⟨hp, K, k1, k2, k3⟩ := sXp_w 1000 0 0 (p + 1) 0 c r (by decide) (by decide) (by decide) (by decide) hr
          exact fin r hp (fun _ => ⟨K, k1, k2, k3⟩) h
      · rw [if_neg h100] at h
        exact fin (p + 1, c) (Pre.rf _) (fun q => absurd q h100) h
  · rw [if_neg hk] at h; cases h
