theorem sXp_b0 {T : Nat → Int} {n o p : Int} {c : Cd} (h0 : 0 ≤ p) (h1 : p ≤ n) (hn : n ≤ 240) : match sXp T n 1000 0 o p c with
    | .inr f => f < 0
    | .inl q => p + 1 ≤ q.1 ∧ q.1 ≤ n := by
  have a := sXp_b (T := T) 1000 0 o p c (by decide) h0 h1 (by show 4 * (n - p) + 3 < _; omega)
  revert a
  cases sXp T n 1000 0 o p c with
  | inr f => exact fun a => a
  | inl q => exact fun ⟨a1, _, a3⟩ => ⟨a1 (by decide), a3⟩
theorem sCd_b {T : Nat → Int} {n : Int} (hn : n ≤ 240) : ∀ (d w : Nat) (o p : Int) (c : Cd), w ≤ 4 → 0 ≤ p → p ≤ n → 4 * (n - p) + rnk w < d → match sCd T n d w o p c with
    | .inr f => f < 0
    | .inl q => (w ≤ 2 → p + 1 ≤ q.1) ∧ p ≤ q.1 ∧ q.1 ≤ n := by
  intro d
  induction d with
  | zero =>
    intro w o p c hw h0 h1 hd9
    have : 1 ≤ rnk w := by unfold rnk; split <;> decide
    omega
  | succ d ih =>
    intro w o p c hw h0 h1 hd9
    match w, hw, hd9 with
    | 0, _, hd9 =>
      have hd9 : 4 * (n - p) + 3 < ((d + 1 : Nat) : Int) := hd9
      rw [sCd_0]
      have a := ih 1 o p c (by decide) h0 h1 (by show 4 * (n - p) + 2 < _; omega)
      cases hr : sCd T n d 1 o p c with
      | inr f => rw [hr] at a; exact a
      | inl q =>
        rw [hr] at a
        obtain ⟨a1, a2, a3⟩ := a
        have a1 := a1 (by decide)
        have b := ih 3 o q.1 q.2 (by decide) (by omega) a3 (by show 4 * (n - q.1) + 1 < _; omega)
        dsimp only
        revert b
        cases sCd T n d 3 o q.1 q.2 with
        | inr f => exact fun b => b
        | inl u => exact fun ⟨_, b2, b3⟩ => ⟨fun _ => by omega, by omega, b3⟩
    | 1, _, hd9 =>
      have hd9 : 4 * (n - p) + 2 < ((d + 1 : Nat) : Int) := hd9
      rw [sCd_1]
      have a := ih 2 o p c (by decide) h0 h1 (by show 4 * (n - p) + 1 < _; omega)
      cases hr : sCd T n d 2 o p c with
      | inr f => rw [hr] at a; exact a
      | inl q =>
        rw [hr] at a
        obtain ⟨a1, a2, a3⟩ := a
        have a1 := a1 (by decide)
        have b := ih 4 o q.1 q.2 (by decide) (by omega) a3 (by show 4 * (n - q.1) + 1 < _; omega)
        dsimp only
        revert b
        cases sCd T n d 4 o q.1 q.2 with
        | inr f => exact fun b => b
        | inl u => exact fun ⟨_, b2, b3⟩ => ⟨fun _ => by omega, by omega, b3⟩
    | 2, _, hd9 =>
      have hd9 : 4 * (n - p) + 1 < ((d + 1 : Nat) : Int) := hd9
      rw [sCd_2]
      by_cases h33 : hd T n p = 33
      · have hp : p < n := hd_in (T := T) (by omega)
        rw [if_pos h33]
        by_cases ho : 6 ≤ o
        · rw [if_pos ho]
          dsimp only
          omega
        · rw [if_neg ho]
          have a := ih 2 (o + 1) (p + 1) c (by decide) (by omega) (by omega) (by show 4 * (n - (p + 1)) + 1 < _; omega)
          cases hr : sCd T n d 2 (o + 1) (p + 1) c with
          | inr f => rw [hr] at a; exact a
          | inl q =>
            rw [hr] at a
            obtain ⟨a1, a2, a3⟩ := a
            exact ⟨fun _ => by dsimp only; omega, by dsimp only; omega, a3⟩
      · rw [if_neg h33]
        by_cases h40 : hd T n p = 40
        · have hp : p < n := hd_in (T := T) (by omega)
          rw [if_pos h40]
          by_cases ho : 6 ≤ o
          · rw [if_pos ho]
            dsimp only
            omega
          · rw [if_neg ho]
            have a := ih 0 (o + 1) (p + 1) c (by decide) (by omega) (by omega) (by show 4 * (n - (p + 1)) + 3 < _; omega)
            cases hr : sCd T n d 0 (o + 1) (p + 1) c with
            | inr f => rw [hr] at a; exact a
            | inl q =>
              rw [hr] at a
              obtain ⟨a1, a2, a3⟩ := a
              dsimp only
              by_cases h41 : hd T n q.1 = 41
              · have hq : q.1 < n := hd_in (T := T) (by omega)
                rw [if_pos h41]
                exact ⟨fun _ => by dsimp only; omega, by dsimp only; omega, by dsimp only; omega⟩
              · rw [if_neg h41]
                dsimp only
                omega
        · rw [if_neg h40]
          have a := sXp_b0 (T := T) (o := o) (c := c) h0 h1 hn
          cases hr : sXp T n 1000 0 o p c with
          | inr f => rw [hr] at a; exact a
          | inl q =>
            rw [hr] at a
            obtain ⟨a1, a2⟩ := a
            dsimp only
            by_cases hc : hd T n q.1 = 60 ∨ hd T n q.1 = 62 ∨ hd T n q.1 = 61
            · have hq : q.1 < n := hd_in (T := T) (by omega)
              rw [if_pos hc]
              have b := sXp_b0 (T := T) (o := o) (c := q.2) (p := q.1 + 1) (by omega) (by omega) hn
              cases hr2 : sXp T n 1000 0 o (q.1 + 1) q.2 with
              | inr f => rw [hr2] at b; exact b
              | inl u =>
                rw [hr2] at b
                obtain ⟨b1, b2⟩ := b
                exact ⟨fun _ => by dsimp only; omega, by dsimp only; omega, b2⟩
            · rw [if_neg hc]
              dsimp only
              omega
    | 3, _, hd9 =>
      have hd9 : 4 * (n - p) + 1 < ((d + 1 : Nat) : Int) := hd9
      rw [sCd_3]
      by_cases hc : hd T n p = 124
      · have hp : p < n := hd_in (T := T) (by omega)
        rw [if_pos hc]
        have a := ih 1 o (p + 1) (c ++ [(124, 0)]) (by decide) (by omega) (by omega) (by show 4 * (n - (p + 1)) + 2 < _; omega)
        cases hr : sCd T n d 1 o (p + 1) (c ++ [(124, 0)]) with
        | inr f => rw [hr] at a; exact a
        | inl q =>
          rw [hr] at a
          obtain ⟨a1, a2, a3⟩ := a
          have b := ih 3 o q.1 (q.2.set c.length (124, (q.2.length : Int))) (by decide) (by omega) a3 (by show 4 * (n - q.1) + 1 < _; omega)
          dsimp only
          revert b
          cases sCd T n d 3 o q.1 (q.2.set c.length (124, (q.2.length : Int))) with
          | inr f => exact fun b => b
          | inl u => exact fun ⟨_, b2, b3⟩ => ⟨fun h => absurd h (by decide), by omega, b3⟩
      · rw [if_neg hc]
        exact ⟨fun h => absurd h (by decide), Int.le_refl _, h1⟩
    | 4, _, hd9 =>
      have hd9 : 4 * (n - p) + 1 < ((d + 1 : Nat) : Int) := hd9
      rw [sCd_4]
      by_cases hc : hd T n p = 38
      · have hp : p < n := hd_in (T := T) (by omega)
        rw [if_pos hc]
        have a := ih 2 o (p + 1) (c ++ [(38, 0)]) (by decide) (by omega) (by omega) (by show 4 * (n - (p + 1)) + 1 < _; omega)
        cases hr : sCd T n d 2 o (p + 1) (c ++ [(38, 0)]) with
        | inr f => rw [hr] at a; exact a
        | inl q =>
          rw [hr] at a
          obtain ⟨a1, a2, a3⟩ := a
          have b := ih 4 o q.1 (q.2.set c.length (38, (q.2.length : Int))) (by decide) (by omega) a3 (by show 4 * (n - q.1) + 1 < _; omega)
          dsimp only
          revert b
          cases sCd T n d 4 o q.1 (q.2.set c.length (38, (q.2.length : Int))) with
          | inr f => exact fun b => b
          | inl u => exact fun ⟨_, b2, b3⟩ => ⟨fun h => absurd h (by decide), by omega, b3⟩
      · rw [if_neg hc]
        exact ⟨fun h => absurd h (by decide), Int.le_refl _, h1⟩
theorem sRu_b {T : Nat → Int} {n i p : Int} {c : Cd} (hn : n ≤ 240) (h0 : 0 ≤ p) (h1 : p ≤ n) {f : Int} (h : sRu T n i p c = .inr f) : f < 0 := by
  have co : ∀ (q : Int × Cd) (f : Int), 0 ≤ q.1 → q.1 ≤ n → sCo T n q.1 q.2 = .inr f → f < 0 := by
    intro q f g0 g1 g
    unfold sCo at g
    by_cases h40 : hd T n q.1 = 40
    · have hp : q.1 < n := hd_in (T := T) (by omega)
      rw [if_pos h40] at g
      have a := sCd_b (T := T) hn 1000 0 1 (q.1 + 1) q.2 (by decide) (by omega) (by omega) (by show 4 * (n - (q.1 + 1)) + 3 < _; omega)
      cases hr : sCd T n 1000 0 1 (q.1 + 1) q.2 with
      | inr z => rw [hr] at a g; cases g; exact a
      | inl u =>
        rw [hr] at a g
        obtain ⟨a1, a2, a3⟩ := a
        dsimp only at g
        split at g
        · cases g
        · cases g
          omega
    · rw [if_neg h40] at g
      cases g
      omega
  unfold sRu at h
  by_cases hc : hd T n p = 100 ∨ hd T n p = 120
  · have hp : p < n := hd_in (T := T) (by omega)
    rw [if_pos hc] at h
    by_cases h16 : 16 ≤ i
    · rw [if_pos h16] at h
      cases h
      omega
    · rw [if_neg h16] at h
      have fin : ∀ q : Int × Cd, 0 ≤ q.1 → q.1 ≤ n → (match sCo T n q.1 q.2 with
          | .inr f => (.inr f : (Int × Int × Int × Cd) ⊕ Int)
          | .inl u => .inl (hd T n p, (q.2.length : Int), u.1, u.2)) = .inr f → f < 0 := by
        intro q g0 g1 g
        cases hr : sCo T n q.1 q.2 with
        | inr z => rw [hr] at g; cases g; exact co q _ g0 g1 hr
        | inl u => rw [hr] at g; cases g
      by_cases h100 : hd T n p = 100
      · rw [if_pos h100] at h
        have a := sXp_b0 (T := T) (o := 0) (c := c) (p := p + 1) (by omega) (by omega) hn
        cases hr : sXp T n 1000 0 0 (p + 1) c with
        | inr z => rw [hr] at a h; cases h; exact a
        | inl q => rw [hr] at a h; exact fin q (by have := a.1; omega) a.2 h
      · rw [if_neg h100] at h
        exact fin (p + 1, c) (by dsimp only; omega) (by dsimp only; omega) h
  · rw [if_neg hc] at h
    cases h
    omega
/-- how high the stack stands ahead of code i (-1: one number alone, 0 or 1) -/
def OKc (K : Nat → Int) (b i : Nat) (s v : Int) : Prop :=
  ((s = 48 ∨ (s = 97 ∧ 0 ≤ v ∧ v < 7)) ∧ 0 ≤ K i ∧ K i ≤ 30 ∧ K (i + 1) = K i + 1) ∨
  ((s = 43 ∨ s = 45 ∨ s = 42 ∨ s = 47 ∨ s = 37) ∧ 2 ≤ K i ∧ K i ≤ 31 ∧ K (i + 1) = K i - 1) ∨
  ((s = 60 ∨ s = 62 ∨ s = 61) ∧ K i = 2 ∧ K (i + 1) = -1) ∨
  (s = 33 ∧ K i = -1 ∧ K (i + 1) = -1) ∨
  ((s = 38 ∨ s = 124) ∧ K i = -1 ∧ K (i + 1) = 0 ∧ (i : Int) < v ∧ v ≤ (b : Int) ∧ K v.toNat = -1)
def WT (c : Cd) (K : Nat → Int) (a b : Nat) : Prop := ∀ i, a ≤ i → i < b → ∃ s v, c[i]? = some (s, v) ∧ OKc K b i s v
theorem OKc.cg {K K' : Nat → Int} {b b' i : Nat} {s v : Int} (h : OKc K b i s v) (hb : b ≤ b') (e : ∀ j, i ≤ j → j ≤ b → K' j = K j) (hi : i < b) : OKc K' b' i s v := by
  unfold OKc at *
  rw [e i (Nat.le_refl _) (by omega), e (i + 1) (by omega) (by omega)]
  rcases h with h | h | h | h | ⟨x1, x2, x3, x4, x5, x6⟩
  · exact Or.inl h
  · exact Or.inr (Or.inl h)
  · exact Or.inr (Or.inr (Or.inl h))
  · exact Or.inr (Or.inr (Or.inr (Or.inl h)))
  · exact Or.inr (Or.inr (Or.inr (Or.inr ⟨x1, x2, x3, x4, by omega, by rw [e v.toNat (by omega) (by omega)]; exact x6⟩)))
def jn (K1 K2 : Nat → Int) (m : Nat) : Nat → Int := fun i => if i ≤ m then K1 i else K2 i
theorem jn_lo (K1 K2 : Nat → Int) {m i : Nat} (h : i ≤ m) : jn K1 K2 m i = K1 i := if_pos h
theorem jn_hi {K1 K2 : Nat → Int} {m : Nat} (e : K1 m = K2 m) {i : Nat} (h : m ≤ i) : jn K1 K2 m i = K2 i := by
  unfold jn
  by_cases q : i ≤ m
  · have : i = m := by omega
    rw [if_pos q, this, e]
  · rw [if_neg q]
theorem WT.jn {c1 c2 : Cd} {K1 K2 : Nat → Int} {a m b : Nat} (h1 : WT c1 K1 a m) (hp : ∀ i, i < m → c2[i]? = c1[i]?) (h2 : WT c2 K2 m b) (e : K1 m = K2 m) (hmb : m ≤ b) : WT c2 (jn K1 K2 m) a b := by
  intro i ha hb
  by_cases hi : i < m
  · obtain ⟨s, v, hc, ho⟩ := h1 i ha hi
    exact ⟨s, v, (hp i hi).trans hc, ho.cg hmb (fun j _ h => jn_lo _ _ h) hi⟩
  · obtain ⟨s, v, hc, ho⟩ := h2 i (by omega) hb
    exact ⟨s, v, hc, ho.cg (Nat.le_refl _) (fun j h _ => jn_hi e (by omega)) hb⟩
theorem WT.pre {c c' : Cd} {K : Nat → Int} {a b : Nat} (h : WT c K a b) (hp : Pre c c') : WT c' K a b := by
  intro i ha hb
  obtain ⟨s, v, hc, ho⟩ := h i ha hb
  have hl : i < c.length := (List.getElem?_eq_some_iff.mp hc).1
  exact ⟨s, v, (hp.2 i hl).trans hc, ho⟩
def st1 (n : Nat) (u u' : Int) : Nat → Int := fun i => if i ≤ n then u else u'
theorem st1_0 (n : Nat) (u u' : Int) : st1 n u u' n = u := if_pos (Nat.le_refl _)
theorem st1_1 (n : Nat) (u u' : Int) : st1 n u u' (n + 1) = u' := if_neg (by omega)
theorem WT.one {c : Cd} {s v u u' : Int} (h : OKc (st1 c.length u u') (c.length + 1) c.length s v) : WT (c ++ [(s, v)]) (st1 c.length u u') c.length (c.length + 1) := by
  intro i ha hb
  have : i = c.length := by omega
  subst this
  exact ⟨s, v, by rw [List.getElem?_append_right (Nat.le_refl _)]; simp, h⟩
def wx (w : Nat) : Int := match w with
  | 0 => 0
  | 1 => 1
  | 2 => 2
  | 3 => 0
  | _ => 1
def kst (w : Nat) (u : Int) : Int := match w with
  | 0 => u
  | 1 => u
  | 2 => u
  | _ => u + 1
theorem pIdx_lt (c : Int) : pIdx c < 7 := by
  unfold pIdx
  repeat' split
  all_goals decide
/-- codes c to c', from one height to another -/
def Sg (c c' : Cd) (u v : Int) : Prop := Pre c c' ∧ ∃ K, WT c' K c.length c'.length ∧ K c.length = u ∧ K c'.length = v
theorem Sg.rf (c : Cd) (u : Int) : Sg c c u u := ⟨Pre.rf _, fun _ => u, fun i h1 h2 => absurd h1 (by omega), rfl, rfl⟩
theorem Sg.tr {a b c : Cd} {u v w : Int} (h1 : Sg a b u v) (h2 : Sg b c v w) : Sg a c u w := by
  obtain ⟨p1, K1, w1, a1, b1⟩ := h1
  obtain ⟨p2, K2, w2, a2, b2⟩ := h2
  refine ⟨p1.tr p2, jn K1 K2 b.length, w1.jn (fun i hi => p2.2 i hi) w2 (b1.trans a2.symm) p2.1, ?_, ?_⟩
  · rw [jn_lo _ _ p1.1]; exact a1
  · rw [jn_hi (b1.trans a2.symm) p2.1]; exact b2
theorem Sg.one {c : Cd} {s v u u' : Int} (h : OKc (st1 c.length u u') (c.length + 1) c.length s v) : Sg c (c ++ [(s, v)]) u u' := by
  have e : (c ++ [(s, v)]).length = c.length + 1 := by rw [List.length_append]; rfl
  refine ⟨Pre.app _ _, st1 c.length u u', ?_, st1_0 _ _ _, ?_⟩
  · rw [e]; exact WT.one h
  · rw [e]; exact st1_1 _ _ _
theorem Sg.num {c : Cd} {s v u : Int} (h : s = 48 ∨ (s = 97 ∧ 0 ≤ v ∧ v < 7)) (h0 : 0 ≤ u) (h1 : u ≤ 30) : Sg c (c ++ [(s, v)]) u (u + 1) := Sg.one (Or.inl ⟨h, by rw [st1_0]; exact h0, by rw [st1_0]; exact h1, by rw [st1_0, st1_1]⟩)
theorem Sg.op {c : Cd} {s v u : Int} (h : s = 43 ∨ s = 45 ∨ s = 42 ∨ s = 47 ∨ s = 37) (h0 : 0 ≤ u) (h1 : u ≤ 29) : Sg c (c ++ [(s, v)]) (u + 2) (u + 1) := Sg.one (Or.inr (Or.inl ⟨h, by rw [st1_0]; omega, by rw [st1_0]; omega, by rw [st1_0, st1_1]; omega⟩))
theorem Sg.cmp {c : Cd} {s v : Int} (h : s = 60 ∨ s = 62 ∨ s = 61) : Sg c (c ++ [(s, v)]) 2 (-1) := Sg.one (Or.inr (Or.inr (Or.inl ⟨h, st1_0 _ _ _, st1_1 _ _ _⟩)))
theorem Sg.not {c : Cd} {v : Int} : Sg c (c ++ [(33, v)]) (-1) (-1) := Sg.one (Or.inr (Or.inr (Or.inr (Or.inl ⟨rfl, st1_0 _ _ _, st1_1 _ _ _⟩))))
theorem Sg.jmp {c q : Cd} {s : Int} (hs : s = 38 ∨ s = 124) (h : Sg (c ++ [(s, 0)]) q 0 (-1)) : Sg c (q.set c.length (s, (q.length : Int))) (-1) (-1) := by
  obtain ⟨hp, K, hw, ha, hb⟩ := h
  have e : (c ++ [(s, (0 : Int))]).length = c.length + 1 := by rw [List.length_append]; rfl
  rw [e] at hw ha
  have hl : c.length + 1 ≤ q.length := by rw [← e]; exact hp.1
  have el : (q.set c.length (s, (q.length : Int))).length = q.length := List.length_set
  have j0 : jn (fun _ => -1) K c.length c.length = -1 := jn_lo _ _ (Nat.le_refl _)
  have j1 : ∀ i, c.length < i → jn (fun _ => -1) K c.length i = K i := fun i hi => if_neg (by omega)
  refine ⟨((Pre.app c [(s, 0)]).tr hp).set (Nat.le_refl _) _, jn (fun _ => -1) K c.length, ?_, j0, ?_⟩
  · intro i h1 h2
    rw [el] at h2 ⊢
    by_cases hi : i = c.length
    · subst hi
      refine ⟨s, (q.length : Int), by rw [List.getElem?_set_self (by omega)], Or.inr (Or.inr (Or.inr (Or.inr ⟨hs, j0, ?_, by omega, Int.le_refl _, ?_⟩)))⟩
      · rw [j1 _ (by omega)]; exact ha
      · rw [Int.toNat_natCast, j1 _ (by omega)]; exact hb
    · obtain ⟨s', v, hc, ho⟩ := hw i (by omega) h2
      exact ⟨s', v, by rw [List.getElem?_set_ne (by omega)]; exact hc, ho.cg (Nat.le_refl _) (fun j h _ => j1 j (by omega)) h2⟩
  · rw [el, j1 _ (by omega)]; exact hb
theorem sXp_w {T : Nat → Int} {n : Int} : ∀ (d w : Nat) (o p u : Int) (c : Cd) (q : Int × Cd), w ≤ 4 → o ≤ 6 → 0 ≤ u → u ≤ 2 * o + 4 + wx w → sXp T n d w o p c = .inl q → Sg c q.2 (kst w u) (u + 1) := by
  intro d
  induction d with
  | zero =>
    intro w o p u c q hw ho h0 h1 h
    rw [sXp] at h
    cases h
  | succ d ih =>
    intro w o p u c q hw ho h0 h1 h
    match w, hw, h1 with
    | 0, _, h1 =>
      have h1 : u ≤ 2 * o + 4 + 0 := h1
      rw [sXp_0] at h
      cases hr : sXp T n d 1 o p c with
      | inr f => rw [hr] at h; cases h
      | inl r =>
        rw [hr] at h
        exact (ih 1 o p u c r (by decide) ho h0 (by show u ≤ 2 * o + 4 + 1; omega) hr).tr (ih 3 o r.1 u r.2 q (by decide) ho h0 h1 h)
    | 1, _, h1 =>
      have h1 : u ≤ 2 * o + 4 + 1 := h1
      rw [sXp_1] at h
      cases hr : sXp T n d 2 o p c with
      | inr f => rw [hr] at h; cases h
      | inl r =>
        rw [hr] at h
        exact (ih 2 o p u c r (by decide) ho h0 (by show u ≤ 2 * o + 4 + 2; omega) hr).tr (ih 4 o r.1 u r.2 q (by decide) ho h0 h1 h)
    | 2, _, h1 =>
      have h1 : u ≤ 2 * o + 4 + 2 := h1
      rw [sXp_2] at h
      by_cases h91 : hd T n p = 91
      · rw [if_pos h91] at h
        by_cases ho6 : 6 ≤ o
        · rw [if_pos ho6] at h; cases h
        · rw [if_neg ho6] at h
          cases hr : sXp T n d 0 (o + 1) (p + 1) c with
          | inr f => rw [hr] at h; cases h
          | inl r =>
            rw [hr] at h
            dsimp only at h
            by_cases h93 : hd T n r.1 = 93
            · rw [if_pos h93] at h
              cases h
              exact ih 0 (o + 1) (p + 1) u c r (by decide) (by omega) h0 (by show u ≤ 2 * (o + 1) + 4 + 0; omega) hr
            · rw [if_neg h93] at h; cases h
      · rw [if_neg h91] at h
        by_cases hg : 48 ≤ hd T n p ∧ hd T n p ≤ 57
        · rw [if_pos hg] at h
          cases hr : sNum T n 5 p with
          | inr f => rw [hr] at h; cases h
          | inl r => rw [hr] at h; cases h; exact Sg.num (Or.inl rfl) h0 (by show u ≤ 30; omega)
        · rw [if_neg hg] at h
          by_cases hi : 0 ≤ pIdx (hd T n p)
          · rw [if_pos hi] at h
            cases h
            exact Sg.num (Or.inr ⟨rfl, hi, pIdx_lt _⟩) h0 (by show u ≤ 30; omega)
          · rw [if_neg hi] at h; cases h
    | 3, _, h1 =>
      have h1 : u ≤ 2 * o + 4 + 0 := h1
      rw [sXp_3] at h
      by_cases hc : hd T n p = 43 ∨ hd T n p = 45
      · rw [if_pos hc] at h
        cases hr : sXp T n d 1 o (p + 1) c with
        | inr f => rw [hr] at h; cases h
        | inl r =>
          rw [hr] at h
          have a := ih 1 o (p + 1) (u + 1) c r (by decide) ho (by omega) (by show u + 1 ≤ 2 * o + 4 + 1; omega) hr
          have b : Sg r.2 (r.2 ++ [(hd T n p, 0)]) (u + 1 + 1) (u + 1) := by
            rw [show u + 1 + 1 = u + 2 by omega]
            exact Sg.op (by omega) h0 (by omega)
          exact (a.tr b).tr (ih 3 o r.1 u _ q (by decide) ho h0 h1 h)
      · rw [if_neg hc] at h
        cases h
        exact Sg.rf _ _
    | 4, _, h1 =>
      have h1 : u ≤ 2 * o + 4 + 1 := h1
      rw [sXp_4] at h
      by_cases hc : hd T n p = 42 ∨ hd T n p = 47 ∨ hd T n p = 37
      · rw [if_pos hc] at h
        cases hr : sXp T n d 2 o (p + 1) c with
        | inr f => rw [hr] at h; cases h
        | inl r =>
          rw [hr] at h
          have a := ih 2 o (p + 1) (u + 1) c r (by decide) ho (by omega) (by show u + 1 ≤ 2 * o + 4 + 2; omega) hr
          have b : Sg r.2 (r.2 ++ [(hd T n p, 0)]) (u + 1 + 1) (u + 1) := by
            rw [show u + 1 + 1 = u + 2 by omega]
            exact Sg.op (by omega) h0 (by omega)
          exact (a.tr b).tr (ih 4 o r.1 u _ q (by decide) ho h0 h1 h)
      · rw [if_neg hc] at h
        cases h
        exact Sg.rf _ _
def kcd (w : Nat) : Int := match w with
  | 0 => 0
  | 1 => 0
  | 2 => 0
  | _ => -1
theorem sCd_w {T : Nat → Int} {n : Int} : ∀ (d w : Nat) (o p : Int) (c : Cd) (q : Int × Cd), w ≤ 4 → 0 ≤ o → o ≤ 6 → sCd T n d w o p c = .inl q → Sg c q.2 (kcd w) (-1) := by
  intro d
  induction d with
  | zero =>
    intro w o p c q hw h0 ho h
    rw [sCd] at h
    cases h
  | succ d ih =>
    intro w o p c q hw h0 ho h
    match w, hw with
    | 0, _ =>
      rw [sCd_0] at h
      cases hr : sCd T n d 1 o p c with
      | inr f => rw [hr] at h; cases h
      | inl r =>
        rw [hr] at h
        exact (ih 1 o p c r (by decide) h0 ho hr).tr (ih 3 o r.1 r.2 q (by decide) h0 ho h)
    | 1, _ =>
      rw [sCd_1] at h
      cases hr : sCd T n d 2 o p c with
      | inr f => rw [hr] at h; cases h
      | inl r =>
        rw [hr] at h
        exact (ih 2 o p c r (by decide) h0 ho hr).tr (ih 4 o r.1 r.2 q (by decide) h0 ho h)
    | 2, _ =>
      rw [sCd_2] at h
      by_cases h33 : hd T n p = 33
      · rw [if_pos h33] at h
        by_cases ho6 : 6 ≤ o
        · rw [if_pos ho6] at h; cases h
        · rw [if_neg ho6] at h
          cases hr : sCd T n d 2 (o + 1) (p + 1) c with
          | inr f => rw [hr] at h; cases h
          | inl r =>
            rw [hr] at h
            cases h
            exact (ih 2 (o + 1) (p + 1) c r (by decide) (by omega) (by omega) hr).tr Sg.not
      · rw [if_neg h33] at h
        by_cases h40 : hd T n p = 40
        · rw [if_pos h40] at h
          by_cases ho6 : 6 ≤ o
          · rw [if_pos ho6] at h; cases h
          · rw [if_neg ho6] at h
            cases hr : sCd T n d 0 (o + 1) (p + 1) c with
            | inr f => rw [hr] at h; cases h
            | inl r =>
              rw [hr] at h
              dsimp only at h
              by_cases h41 : hd T n r.1 = 41
              · rw [if_pos h41] at h
                cases h
                exact ih 0 (o + 1) (p + 1) c r (by decide) (by omega) (by omega) hr
              · rw [if_neg h41] at h; cases h
        · rw [if_neg h40] at h
          cases hr : sXp T n 1000 0 o p c with
          | inr f => rw [hr] at h; cases h
          | inl r =>
            rw [hr] at h
            dsimp only at h
            by_cases hs : hd T n r.1 = 60 ∨ hd T n r.1 = 62 ∨ hd T n r.1 = 61
            · rw [if_pos hs] at h
              cases hr2 : sXp T n 1000 0 o (r.1 + 1) r.2 with
              | inr f => rw [hr2] at h; cases h
              | inl t =>
                rw [hr2] at h
                cases h
                have a := sXp_w 1000 0 o p 0 c r (by decide) ho (by decide) (by show (0 : Int) ≤ 2 * o + 4 + 0; omega) hr
                have b := sXp_w 1000 0 o (r.1 + 1) 1 r.2 t (by decide) ho (by decide) (by show (1 : Int) ≤ 2 * o + 4 + 0; omega) hr2
                exact (Sg.tr a b).tr (Sg.cmp hs)
            · rw [if_neg hs] at h; cases h
    | 3, _ =>
      rw [sCd_3] at h
      by_cases hc : hd T n p = 124
      · rw [if_pos hc] at h
        cases hr : sCd T n d 1 o (p + 1) (c ++ [(124, 0)]) with
        | inr f => rw [hr] at h; cases h
        | inl r =>
          rw [hr] at h
          exact (Sg.jmp (Or.inr rfl) (ih 1 o (p + 1) _ r (by decide) h0 ho hr)).tr (ih 3 o r.1 _ q (by decide) h0 ho h)
      · rw [if_neg hc] at h
        cases h
        exact Sg.rf _ _
    | 4, _ =>
      rw [sCd_4] at h
      by_cases hc : hd T n p = 38
      · rw [if_pos hc] at h
        cases hr : sCd T n d 2 o (p + 1) (c ++ [(38, 0)]) with
        | inr f => rw [hr] at h; cases h
        | inl r =>
          rw [hr] at h
          exact (Sg.jmp (Or.inl rfl) (ih 2 o (p + 1) _ r (by decide) h0 ho hr)).tr (ih 4 o r.1 _ q (by decide) h0 ho h)
      · rw [if_neg hc] at h
        cases h
        exact Sg.rf _ _
/-- a rule's codes are in order -/
def RW (c : Cd) (R : Int × Int × Int × Int) : Prop := ∃ a h b : Nat, R.2.1 = (a : Int) ∧ R.2.2.1 = (h : Int) ∧ R.2.2.2 = (b : Int) ∧ a ≤ h ∧ h ≤ b ∧ b ≤ c.length ∧ (R.1 = 100 → ∃ K, WT c K a h ∧ K a = 0 ∧ K h = 1) ∧ ∃ K, WT c K h b ∧ K h = 0 ∧ K b = -1
theorem RW.pre {c c' : Cd} {R : Int × Int × Int × Int} (h : RW c R) (hp : Pre c c') : RW c' R := by
  obtain ⟨a, m, b, e1, e2, e3, l1, l2, l3, k1, K, k2, k3, k4⟩ := h
  refine ⟨a, m, b, e1, e2, e3, l1, l2, Nat.le_trans l3 hp.1, fun q => ?_, K, k2.pre hp, k3, k4⟩
  obtain ⟨K, k5, k6⟩ := k1 q
  exact ⟨K, k5.pre hp, k6⟩
theorem sRu_w {T : Nat → Int} {n i p : Int} {c : Cd} {u : Int × Int × Int × Cd} (h : sRu T n i p c = .inl u) : Pre c u.2.2.2 ∧ RW u.2.2.2 (u.1, (c.length : Int), u.2.1, (u.2.2.2.length : Int)) := by
  unfold sRu at h
  by_cases hk : hd T n p = 100 ∨ hd T n p = 120
  · rw [if_pos hk] at h
    by_cases h16 : 16 ≤ i
    · rw [if_pos h16] at h; cases h
    · rw [if_neg h16] at h
      have fin : ∀ r : Int × Cd, Pre c r.2 → (hd T n p = 100 → ∃ K, WT r.2 K c.length r.2.length ∧ K c.length = 0 ∧ K r.2.length = 1) → (match sCo T n r.1 r.2 with
          | .inr f => (.inr f : (Int × Int × Int × Cd) ⊕ Int)
          | .inl t => .inl (hd T n p, (r.2.length : Int), t.1, t.2)) = .inl u → Pre c u.2.2.2 ∧ RW u.2.2.2 (u.1, (c.length : Int), u.2.1, (u.2.2.2.length : Int)) := fun r hp hE h => by
        cases hr : sCo T n r.1 r.2 with
        | inr f => rw [hr] at h; cases h
        | inl t =>
          rw [hr] at h
          cases h
          dsimp only
          have hs : Sg r.2 t.2 0 (-1) := by
            unfold sCo at hr
            by_cases h40 : hd T n r.1 = 40
            · rw [if_pos h40] at hr
              cases hr2 : sCd T n 1000 0 1 (r.1 + 1) r.2 with
              | inr f => rw [hr2] at hr; cases hr
              | inl t2 =>
                rw [hr2] at hr
                dsimp only at hr
                by_cases h41 : hd T n t2.1 = 41
                · rw [if_pos h41] at hr
                  cases hr
                  exact sCd_w 1000 0 1 (r.1 + 1) r.2 t2 (by decide) (by decide) (by decide) hr2
                · rw [if_neg h41] at hr; cases hr
            · rw [if_neg h40] at hr; cases hr
          obtain ⟨hp2, K, w1, w2, w3⟩ := hs
          refine ⟨hp.tr hp2, c.length, r.2.length, t.2.length, rfl, rfl, rfl, hp.1, hp2.1, Nat.le_refl _, fun q => ?_, K, w1, w2, w3⟩
          obtain ⟨K, k1, k2, k3⟩ := hE q
          exact ⟨K, k1.pre hp2, k2, k3⟩
      by_cases h100 : hd T n p = 100
      · rw [if_pos h100] at h
        cases hr : sXp T n 1000 0 0 (p + 1) c with
        | inr f => rw [hr] at h; cases h
        | inl r =>
          rw [hr] at h
          obtain ⟨hp, K, k1, k2, k3⟩ := sXp_w 1000 0 0 (p + 1) 0 c r (by decide) (by decide) (by decide) (by decide) hr
          exact fin r hp (fun _ => ⟨K, k1, k2, k3⟩) h
      · rw [if_neg h100] at h
        exact fin (p + 1, c) (Pre.rf _) (fun q => absurd q h100) h
  · rw [if_neg hk] at h; cases h
/-- the rules: letter, where its codes begin, where its condition's begin, where they end -/
abbrev Ru : Type := Int × Int × Int × Int
def RLs (σ τ : pS) (i : Nat) (R : Nat → Ru) : Prop := ∀ j, j < i → (σ 58 j = (R j).1 ∧ σ 59 j = (R j).2.1 ∧ σ 60 j = (R j).2.2.1 ∧ σ 59 (j + 1) = (R j).2.2.2) ∧ τ 99 j = (R j).1 ∧ τ 100 j = (R j).2.1 ∧ τ 101 j = (R j).2.2.1 ∧ τ 102 j = (R j).2.2.2
def PLw (k x : Nat) : Prop := PL k x ∨ k = 58 ∨ k = 59 ∨ k = 60 ∨ (k = 57 ∧ x = 7)
def QLw (k x : Nat) : Prop := QL k x ∨ k = 99 ∨ k = 100 ∨ k = 101 ∨ k = 102 ∨ (k = 84 ∧ (x = 26 ∨ x = 18))
def mL (fu : Nat) (τ : pS) : Option (Int × pS) := (f_M_readsRule_84 τ).bind fun q => if q.1 = 0 then f_M_law_84_p31 fu 0 q.2 else f_M_law_84_p31 fu 1 q.2
theorem ml_bad (fu : Nat) (τ : pS) : f_M_law_84_p31 (fu + 1) 0 τ = some (τ 84 21, pU τ 84 18 0) := by
  show (if (0 : Int) = 0 then _ else _) = _
  rw [if_pos rfl]
  unfold f_M_law_84_p71
  rw [if_pos rfl]
theorem RLs.mv {σ σ' τ τ' : pS} {i : Nat} {R : Nat → Ru} {c : Cd} {u : Ru} (h : RLs σ τ i R) (hc : ∀ j, j + 1 = i → (R j).2.2.2 = (c.length : Int)) (h1 : FR (PRu i) σ σ') (h2 : FR (QRu i) τ τ') (e1 : σ' 58 i = u.1) (e2 : σ' 59 i = (c.length : Int)) (e3 : σ' 60 i = u.2.2.1) (e4 : σ' 59 (i + 1) = u.2.2.2) (eu : u.2.1 = (c.length : Int)) (m1 : τ' 99 i = u.1) (m2 : τ' 100 i = (c.length : Int)) (m3 : τ' 101 i = u.2.2.1) (m4 : τ' 102 i = u.2.2.2) : RLs σ' τ' (i + 1) (fun j => if j = i then u else R j) := by
  intro j hj
  by_cases hji : j = i
  · rw [hji]
    simp only [if_true]
    exact ⟨⟨e1, e2.trans eu.symm, e3, e4⟩, m1, m2.trans eu.symm, m3, m4⟩
  · simp only [if_neg hji]
    obtain ⟨⟨a1, a2, a3, a4⟩, b1, b2, b3, b4⟩ := h j (by omega)
    refine ⟨⟨(h1.get (by unfold PRu PL; omega)).trans a1, (h1.get (by unfold PRu PL; omega)).trans a2, (h1.get (by unfold PRu PL; omega)).trans a3, ?_⟩, (h2.get (by unfold QRu QL; omega)).trans b1, (h2.get (by unfold QRu QL; omega)).trans b2, (h2.get (by unfold QRu QL; omega)).trans b3, (h2.get (by unfold QRu QL; omega)).trans b4⟩
    by_cases hj1 : j + 1 = i
    · rw [hj1, e2, hc j hj1]
    · exact (h1.get (by unfold PRu PL; omega)).trans a4
theorem RLs.st {σ σ' τ τ' : pS} {i : Nat} {R : Nat → Ru} (h : RLs σ τ i R) (h1 : ∀ k x, 58 ≤ k → k ≤ 60 → σ' k x = σ k x) (h2 : ∀ k x, 99 ≤ k → k ≤ 102 → τ' k x = τ k x) : RLs σ' τ' i R := by
  intro j hj
  have := h j hj
  rw [h1 58 _ (by decide) (by decide), h1 59 _ (by decide) (by decide), h1 60 _ (by decide) (by decide), h1 59 _ (by decide) (by decide), h2 99 _ (by decide) (by decide), h2 100 _ (by decide) (by decide), h2 101 _ (by decide) (by decide), h2 102 _ (by decide) (by decide)]
  exact this
theorem ML.mo {τ τ' : pS} {c : Cd} (h : ML τ c) (e : MO τ τ') : ML τ' c := ⟨(e.2 24 (by decide) (by decide) (by decide)).trans h.1, fun i q hq => by rw [e.1 97 i (by decide)]; exact h.2 i q hq⟩
/-- the rules of both, one behind the other -/
theorem lw_ls {T : Nat → Int} {n : Int} (hT : TB T n) : ∀ (d i fu1 fu2 : Nat) (p : Int) (c : Cd) (σ τ : pS) (R : Nat → Ru), i + d = 16 → d + 1 < fu1 → d + 2 < fu2 → TP σ T n p → CL σ c → TM τ T n p → ML τ c → τ 84 26 = (i : Int) → (c.length : Int) ≤ p → RLs σ τ i R → (∀ j, j + 1 = i → (R j).2.2.2 = (c.length : Int)) → (∀ j, j < i → RW c (R j)) →
    (∃ f σ' τ', f < 0 ∧ f_Law_readFrom_57_1_p7 fu1 (i : Int) σ = some (f, σ') ∧ mL fu2 τ = some (f, τ') ∧ FR PLw σ σ' ∧ FR QLw τ τ' ∧ τ' 84 18 = 0) ∨
    (∃ (m : Nat) (σe τe : pS) (c' : Cd) (R' : Nat → Ru), 0 < m ∧ m ≤ 16 ∧ f_Law_readFrom_57_1_p7 fu1 (i : Int) σ = some ((m : Int), pU σe 57 7 (m : Int)) ∧ mL fu2 τ = f_M_law_84_p71 1 τe ∧ τe 84 26 = (m : Int) ∧ CL σe c' ∧ ML τe c' ∧ c'.length ≤ 240 ∧ RLs σe τe m R' ∧ FR PLw σ σe ∧ FR QLw τ τe ∧ ∀ j, j < m → RW c' (R' j)) := by
  intro d
  induction d with
  | zero =>
    intro i fu1 fu2 p c σ τ R hdd h1 h2 hP hC hM hL h26 hl hR hRc hW
    obtain ⟨fu1, rfl⟩ : ∃ k, fu1 = k + 1 := ⟨fu1 - 1, by omega⟩
    obtain ⟨fu2, rfl⟩ : ∃ k, fu2 = k + 1 := ⟨fu2 - 1, by omega⟩
    have ha := c_rule hT (i := i) (by omega) hP hC hl
    have hb := m_rule (i := i) (by omega) ⟨hM, hL⟩ h26 hl
    have hpb := hP.2.2.1
    cases hs : sRu T n (i : Int) p c with
    | inl u =>
      rw [hs] at ha
      obtain ⟨_, _, _, _, _, _, _, _, hi⟩ := ha
      omega
    | inr f =>
      rw [hs] at ha hb
      obtain ⟨σ', a1, a2, a3⟩ := ha
      obtain ⟨τ', b1, b2, b3⟩ := hb
      refine Or.inl ⟨f, σ', pU τ' 84 18 0, sRu_b (by omega) (by omega) (by omega) hs, ?_, ?_, a3.mono (fun k x h => by unfold PRu PL at h; unfold PLw PL; omega), (b3.mono (fun k x h => by unfold QRu QL at h; unfold QLw QL; omega)).tr (FR.u (by unfold QLw; omega)), pU_s _ _ _ _⟩
      · show (if (16 : Int) < (i : Int) then _ else _) = _
        rw [if_neg (by omega), a1, Option.bind_some]
        dsimp only
        rw [if_pos rfl, c_flt, Option.bind_some, a2]
      · unfold mL
        rw [b1, Option.bind_some]
        dsimp only
        rw [if_pos rfl, ml_bad, b2]
  | succ d ih =>
    intro i fu1 fu2 p c σ τ R hdd h1 h2 hP hC hM hL h26 hl hR hRc hW
    obtain ⟨fu1, rfl⟩ : ∃ k, fu1 = k + 1 := ⟨fu1 - 1, by omega⟩
    obtain ⟨fu2, rfl⟩ : ∃ k, fu2 = k + 1 := ⟨fu2 - 1, by omega⟩
    have ha := c_rule hT (i := i) (by omega) hP hC hl
    have hb := m_rule (i := i) (by omega) ⟨hM, hL⟩ h26 hl
    have hpb := hP.2.2.1
    have pM : ∀ k x, PRu i k x → PLw k x := fun k x h => by unfold PRu PL at h; unfold PLw PL; omega
    have qM : ∀ k x, QRu i k x → QLw k x := fun k x h => by unfold QRu QL at h; unfold QLw QL; omega
    cases hs : sRu T n (i : Int) p c with
    | inr f =>
      rw [hs] at ha hb
      obtain ⟨σ', a1, a2, a3⟩ := ha
      obtain ⟨τ', b1, b2, b3⟩ := hb
      refine Or.inl ⟨f, σ', pU τ' 84 18 0, sRu_b (by omega) (by omega) (by omega) hs, ?_, ?_, a3.mono pM, (b3.mono qM).tr (FR.u (by unfold QLw; omega)), pU_s _ _ _ _⟩
      · show (if (16 : Int) < (i : Int) then _ else _) = _
        rw [if_neg (by omega), a1, Option.bind_some]
        dsimp only
        rw [if_pos rfl, c_flt, Option.bind_some, a2]
      · unfold mL
        rw [b1, Option.bind_some]
        dsimp only
        rw [if_pos rfl, ml_bad, b2]
    | inl u =>
      rw [hs] at ha hb
      obtain ⟨σ1, a1, a2, a3, ⟨a4, a5, a6, a7⟩, a8, a9, a10, a11⟩ := ha
      obtain ⟨τ1, K, o, b1, b2, ⟨b4, b5, b6, b7⟩, b8, b9, -⟩ := hb
      have hM1 := b2.1
      have hL1 := b2.2.1
      have hp1 := a2.2.2.1
      have hW1 : ∀ j, j < i + 1 → RW u.2.2.2 ((fun j => if j = i then (u.1, (c.length : Int), u.2.1, (u.2.2.2.length : Int)) else R j : Nat → Ru) j) := fun j hj => by
        obtain ⟨w1, w2⟩ := sRu_w hs
        by_cases hji : j = i
        · show RW u.2.2.2 (if j = i then _ else _)
          rw [if_pos hji]
          exact w2
        · show RW u.2.2.2 (if j = i then _ else _)
          rw [if_neg hji]
          exact (hW j (by omega)).pre w1
      have hR1 : RLs σ1 τ1 (i + 1) (fun j => if j = i then (u.1, (c.length : Int), u.2.1, (u.2.2.2.length : Int)) else R j) := hR.mv (c := c) (u := (u.1, (c.length : Int), u.2.1, (u.2.2.2.length : Int))) hRc a8 b9 a4 a5 a6 a7 rfl b4 b5 b6 b7
      have eC : f_Law_readFrom_57_1_p7 (fu1 + 1) (i : Int) σ = ((f_Tape_ended_1 σ1).bind fun q5 => (if q5.1 = 0 then ((f_Tape_accept_1 59 q5.2).bind fun q7 => (if q7.1 = 0 then ((f_Tape_fault_1 q7.2).bind fun q9 => (some (q9.1, q9.2))) else (f_Law_readFrom_57_1_p7 fu1 (pw ((i : Int) + 1)) q7.2))) else (some (pw ((i : Int) + 1), pU q5.2 57 7 (pw ((i : Int) + 1)))))) := by
        show (if (16 : Int) < (i : Int) then _ else _) = _
        rw [if_neg (by omega), a1, Option.bind_some]
        dsimp only
        rw [if_neg (by decide)]
      have eM : mL (fu2 + 1) τ = (if (τ1 84 20) ≤ (τ1 84 19) then (f_M_law_84_p71 1 τ1) else ((f_M_takes_84 59 τ1).bind fun q21 => (if q21.1 = 0 then (f_M_law_84_p31 fu2 0 q21.2) else mL fu2 q21.2))) := by
        unfold mL
        rw [b1, Option.bind_some]
        dsimp only
        rw [if_neg (by decide)]
        show (if (1 : Int) = 0 then _ else _) = _
        rw [if_neg (by decide)]
      rw [eC, eM, c_end a2, Option.bind_some, hM1.1, hM1.2.1, pw_id (z := (i : Int) + 1) (by omega) (by omega)]
      by_cases hend : u.2.2.1 < n
      · rw [if_pos hend, if_neg (show ¬ n ≤ u.2.2.1 by omega)]
        dsimp only
        rw [if_pos rfl]
        by_cases h59 : hd T n u.2.2.1 = 59
        · obtain ⟨σ2, x1, x2, x3⟩ := c_acc1 a2 h59 (by decide)
          obtain ⟨τ2, y1, y2, y3⟩ := m_tak1 hM1 h59 (by decide)
          rw [x1, y1, Option.bind_some, Option.bind_some]
          dsimp only
          rw [if_neg (by decide), if_neg (by decide)]
          have hR2 : RLs σ2 τ2 (i + 1) (fun j => if j = i then (u.1, (c.length : Int), u.2.1, (u.2.2.2.length : Int)) else R j) := hR1.st (fun k x h1 h2 => x3 k x (by omega)) (fun k x h1 h2 => y3.1 k x (by omega))
          have h := ih (i + 1) fu1 fu2 (u.2.2.1 + 1) u.2.2.2 σ2 τ2 _ (by omega) (by omega) (by omega) x2 (a3.mv x3) y2 (hL1.mo y3) ((y3.2 26 (by decide) (by decide) (by decide)).trans (by rw [b8]; omega)) (by omega) hR2 (fun j hj => by
            rw [if_pos (show j = i by omega)]) hW1
          have hP2 : FR PLw σ σ2 := (a8.mono pM).tr (x3.fr (fun x => Or.inl (Or.inl rfl)))
          have hQ2 : FR QLw τ τ2 := (b9.mono qM).tr (y3.fr (Or.inl (Or.inl (by decide))) (Or.inl (Or.inl (by decide))) (Or.inl (Or.inl (by decide))))
          rw [show (i : Int) + 1 = ((i + 1 : Nat) : Int) by omega]
          rcases h with ⟨f, σ', τ', q1, q2, q3, q4, q5, q6⟩ | ⟨m, σe, τe, c', R', q1, q2, q3, q4, q5, q6, q7, q8, q9, q10, q11, q12⟩
          · exact Or.inl ⟨f, σ', τ', q1, q2, q3, hP2.tr q4, hQ2.tr q5, q6⟩
          · exact Or.inr ⟨m, σe, τe, c', R', q1, q2, q3, q4, q5, q6, q7, q8, q9, hP2.tr q10, hQ2.tr q11, q12⟩
        · obtain ⟨σ2, x1, x2, x3⟩ := c_acc0 a2 h59
          obtain ⟨τ2, y1, y2, y3⟩ := m_tak0 hM1 h59
          rw [x1, y1, Option.bind_some, Option.bind_some]
          dsimp only
          rw [if_pos rfl, if_pos rfl, c_flt, Option.bind_some]
          obtain ⟨fu2, rfl⟩ : ∃ k, fu2 = k + 1 := ⟨fu2 - 1, by omega⟩
          rw [ml_bad, x2, y2]
          exact Or.inl ⟨_, σ2, _, by omega, rfl, rfl, (a8.mono pM).tr (x3.fr (fun x => Or.inl (Or.inl rfl))), ((b9.mono qM).tr (y3.fr (Or.inl (Or.inl (by decide))) (Or.inl (Or.inl (by decide))) (Or.inl (Or.inl (by decide))))).tr (FR.u (by unfold QLw; omega)), pU_s _ _ _ _⟩
      · rw [if_neg hend, if_pos (show n ≤ u.2.2.1 by omega)]
        dsimp only
        rw [if_neg (by decide), show (i : Int) + 1 = ((i + 1 : Nat) : Int) by omega]
        exact Or.inr ⟨i + 1, σ1, τ1, u.2.2.2, _, by omega, by omega, rfl, rfl, by rw [b8]; omega, a3, hL1, by omega, hR1, a8.mono pM, b9.mono qM, hW1⟩
def CQ (τ : pS) (j : Nat) : Prop := τ 104 j = τ 99 j ∧ τ 105 j = τ 100 j ∧ τ 106 j = τ 101 j ∧ τ 107 j = τ 102 j
def Q4 (k _x : Nat) : Prop := 104 ≤ k ∧ k ≤ 107
theorem m_123 {m : Nat} (hm : m ≤ 16) : ∀ (d k fu : Nat) (τ : pS), k + d = m → d < fu → τ 84 26 = (m : Int) → (∀ j, j < k → CQ τ j) → ∃ τ', f_M_law_84_p123 fu (k : Int) τ = some ((m : Int), τ') ∧ (∀ j, j < m → CQ τ' j) ∧ FR Q4 τ τ'
  | 0, k, fu, τ, hk, hf, h26, hc => by
    obtain ⟨n, rfl⟩ : ∃ n, fu = n + 1 := ⟨fu - 1, by omega⟩
    refine ⟨τ, ?_, fun j hj => hc j (by omega), FR.rf _ _⟩
    show (if τ 84 26 ≤ (k : Int) then _ else _) = _
    rw [if_pos (by omega), h26]
  | d + 1, k, fu, τ, hk, hf, h26, hc => by
    obtain ⟨n, rfl⟩ : ∃ n, fu = n + 1 := ⟨fu - 1, by omega⟩
    have g : (0 : Int) ≤ (k : Int) ∧ (k : Int) < 16 := by omega
    generalize hτ1 : pU (pU (pU (pU τ 104 k (τ 99 k)) 105 k (τ 100 k)) 106 k (τ 101 k)) 107 k (τ 102 k) = τ1
    have f1 : FR Q4 τ τ1 := by
      rw [← hτ1]
      exact (((FR.u (by unfold Q4; omega)).tr (FR.u (by unfold Q4; omega))).tr (FR.u (by unfold Q4; omega))).tr (FR.u (by unfold Q4; omega))
    have hj : ∀ j, j < k + 1 → CQ τ1 j := fun j hj => by
      rw [← hτ1]
      unfold CQ
      by_cases hjk : j = k
      · subst hjk
        refine ⟨?_, ?_, ?_, ?_⟩ <;> simp [pU]
      · have := hc j (by omega)
        unfold CQ at this
        refine ⟨?_, ?_, ?_, ?_⟩ <;> simp [pU, hjk, this]
    obtain ⟨τ', q1, q2, q3⟩ := m_123 hm d (k + 1) n τ1 (by omega) (by omega) ((f1.get (by unfold Q4; omega)).trans h26) hj
    refine ⟨τ', ?_, q2, f1.tr q3⟩
    show (if τ 84 26 ≤ (k : Int) then _ else _) = _
    rw [if_neg (by omega), if_pos g, if_pos g, if_pos g, if_pos g, if_pos g, if_pos g, if_pos g, if_pos g, Int.toNat_natCast, hτ1, pw_id (by omega) (by omega), show (k : Int) + 1 = ((k + 1 : Nat) : Int) by omega]
    exact q1
def Q3 (k _x : Nat) : Prop := k = 103
theorem m_95 {L : Nat} (hL : L ≤ 260) : ∀ (d k fu : Nat) (τ : pS), k + d = L → d < fu → τ 84 24 = (L : Int) → (∀ j, j < k → τ 103 j = τ 97 j) → ∃ τ', f_M_law_84_p95 fu (k : Int) τ = f_M_law_84_p123 4096 0 τ' ∧ (∀ j, j < L → τ' 103 j = τ' 97 j) ∧ FR Q3 τ τ'
  | 0, k, fu, τ, hk, hf, h24, hc => by
    obtain ⟨n, rfl⟩ : ∃ n, fu = n + 1 := ⟨fu - 1, by omega⟩
    refine ⟨τ, ?_, fun j hj => hc j (by omega), FR.rf _ _⟩
    show (if τ 84 24 ≤ (k : Int) then _ else _) = _
    rw [if_pos (by omega)]
  | d + 1, k, fu, τ, hk, hf, h24, hc => by
    obtain ⟨n, rfl⟩ : ∃ n, fu = n + 1 := ⟨fu - 1, by omega⟩
    have g : (0 : Int) ≤ (k : Int) ∧ (k : Int) < 260 := by omega
    have f1 : FR Q3 τ (pU τ 103 k (τ 97 k)) := FR.u (by unfold Q3; omega)
    obtain ⟨τ', q1, q2, q3⟩ := m_95 hL d (k + 1) n (pU τ 103 k (τ 97 k)) (by omega) (by omega) ((f1.get (by unfold Q3; omega)).trans h24) (fun j hj => by
      rw [f1.get (k := 97) (by unfold Q3; omega)]
      by_cases hjk : j = k
      · rw [hjk, pU_s]
      · rw [pU_i _ _ _ _ hjk]
        exact hc j (by omega))
    refine ⟨τ', ?_, q2, f1.tr q3⟩
    show (if τ 84 24 ≤ (k : Int) then _ else _) = _
    rw [if_neg (by omega), if_pos g, if_pos g, Int.toNat_natCast, pw_id (by omega) (by omega), show (k : Int) + 1 = ((k + 1 : Nat) : Int) by omega]
    exact q1
/-- the two laws are alike -/
def LR (σ τ : pS) : Prop := ∃ (m : Nat) (c : Cd) (R : Nat → Ru), m ≤ 16 ∧ c.length ≤ 240 ∧ σ 16 7 = (m : Int) ∧ τ 84 27 = (m : Int) ∧ (∀ (i : Nat) (q : Int × Int), c[i]? = some q → σ 20 i = q.1 ∧ σ 21 i = q.2 ∧ τ 103 i = 1048576 * mop q.1 + q.2 ∧ 0 ≤ q.2 ∧ q.2 < 1048576) ∧ ∀ j, j < m → (σ 17 j = (R j).1 ∧ σ 18 j = (R j).2.1 ∧ σ 19 j = (R j).2.2.1 ∧ σ 18 (j + 1) = (R j).2.2.2) ∧ τ 104 j = (R j).1 ∧ τ 105 j = (R j).2.1 ∧ τ 106 j = (R j).2.2.1 ∧ τ 107 j = (R j).2.2.2 ∧ RW c (R j)
theorem LR.mv {σ σ' τ τ' : pS} (h : LR σ τ) (h1 : σ' 16 7 = σ 16 7) (h2 : ∀ k x, 17 ≤ k → k ≤ 21 → σ' k x = σ k x) (h3 : τ' 84 27 = τ 84 27) (h4 : ∀ k x, 103 ≤ k → k ≤ 107 → τ' k x = τ k x) : LR σ' τ' := by
  obtain ⟨m, c, R, a1, a2, a3, a4, a5, a6⟩ := h
  refine ⟨m, c, R, a1, a2, h1.trans a3, h3.trans a4, fun i q hq => ?_, fun j hj => ?_⟩
  · rw [h2 20 _ (by decide) (by decide), h2 21 _ (by decide) (by decide), h4 103 _ (by decide) (by decide)]
    exact a5 i q hq
  · rw [h2 17 _ (by decide) (by decide), h2 18 _ (by decide) (by decide), h2 19 _ (by decide) (by decide), h2 18 _ (by decide) (by decide), h4 104 _ (by decide) (by decide), h4 105 _ (by decide) (by decide), h4 106 _ (by decide) (by decide), h4 107 _ (by decide) (by decide)]
    exact a6 j hj
def cpL (σ : pS) : pS := pU (pKp (pKp (pKp (pKp (pKp σ 58 17 16) 59 18 17) 60 19 16) 61 20 240) 62 21 240) 16 7 (σ 57 7)
def PLx (k _x : Nat) : Prop := k = 1 ∨ (16 ≤ k ∧ k ≤ 21) ∨ (57 ≤ k ∧ k ≤ 62)
def QLx (k x : Nat) : Prop := (k = 84 ∧ 18 ≤ x ∧ x ≤ 27) ∨ (97 ≤ k ∧ k ≤ 107)
theorem cpL_fr (σ : pS) : FR PLx σ (cpL σ) := by
  intro k x
  by_cases h : 16 ≤ k ∧ k ≤ 21
  · exact Or.inl (Or.inr (Or.inl h))
  · right
    unfold cpL pU pKp
    rw [if_neg (by omega), if_neg (by omega), if_neg (by omega), if_neg (by omega), if_neg (by omega), if_neg (by omega)]
/-- law: tapes alike and laws alike stay so, the answers are equal -/
theorem law_ls {σ τ : pS} {a : Int} (hTR : TR σ τ) : ∃ v σ' τ', f_X_law_0 a σ = some (v, σ') ∧ f_M_law_84 a τ = some (v, τ') ∧ TR σ' τ' ∧ (LR σ τ → LR σ' τ') ∧ FR PLx σ σ' ∧ FR QLx τ τ' := by
  have hTR' := hTR
  obtain ⟨t1, t2, t3⟩ := hTR
  by_cases hb : (1 ≤ a ∧ a ≤ 240) ∧ a ≤ σ 1 1
  · obtain ⟨hb1, hb2⟩ := hb
    have hTB : TB (fun i => σ 2 i) a := fun i hi => (t3 i (by omega)).2
    generalize hσ0 : pU (pU (pU (pU σ 1 2 a) 1 3 0) 1 4 0) 57 8 0 = σ0
    generalize hτ0 : pU (pU (pU (pU τ 84 19 0) 84 20 a) 84 24 0) 84 26 0 = τ0
    have hP0 : TP σ0 (fun i => σ 2 i) a 0 := by
      rw [← hσ0]
      refine ⟨by simp [pU], by simp [pU], ⟨by omega, by omega, by omega⟩, fun i hi => by simp [pU]⟩
    have hC0 : CL σ0 [] := by
      rw [← hσ0]
      exact ⟨by simp [pU], fun i q hq => by simp at hq⟩
    have hM0 : TM τ0 (fun i => σ 2 i) a 0 := by
      rw [← hτ0]
      refine ⟨by simp [pU], by simp [pU], ⟨by omega, by omega, by omega⟩, fun i hi => ?_⟩
      rw [show pU (pU (pU (pU τ 84 19 0) 84 20 a) 84 24 0) 84 26 0 96 i = τ 96 i by simp [pU]]
      exact (t3 i (by omega)).1.symm
    have hL0 : ML τ0 [] := by
      rw [← hτ0]
      exact ⟨by simp [pU], fun i q hq => by simp at hq⟩
    have h26 : τ0 84 26 = ((0 : Nat) : Int) := by rw [← hτ0]; simp [pU]
    have n0 : ∀ k x, k ≠ 1 → k ≠ 57 → σ0 k x = σ k x := fun k x h h2 => by rw [← hσ0]; exact (pU_c _ _ _ _ h2).trans ((pU_c _ _ _ _ h).trans ((pU_c _ _ _ _ h).trans (pU_c _ _ _ _ h)))
    have m0 : ∀ k x, ¬ (k = 84 ∧ (x = 19 ∨ x = 20 ∨ x = 24 ∨ x = 26)) → τ0 k x = τ k x := fun k x h => by
      rw [← hτ0]
      unfold pU
      rw [if_neg (by omega), if_neg (by omega), if_neg (by omega), if_neg (by omega)]
    have eX : f_X_law_0 a σ = (f_Law_readFrom_57_1_p7 4096 0 σ0).bind fun q5 => if q5.1 < 0 then f_X_law_0_p63 q5.1 q5.2 else (f_Law_copyFrom_16_57 q5.2).bind fun q8 => f_X_law_0_p63 q5.1 q8.2 := by
      unfold f_X_law_0
      rw [if_neg (by omega), if_neg (by omega), if_pos hb2]
      unfold f_Tape_beginText_1
      rw [Option.bind_some]
      dsimp only
      unfold f_Law_readFrom_57_1
      rw [show pMin a (σ 1 1) = a by unfold pMin; rw [if_neg (by omega)], hσ0]
    have eM : f_M_law_84 a τ = mL 4096 τ0 := by
      unfold f_M_law_84
      rw [m_in, if_pos hb1, Option.bind_some]
      dsimp only
      rw [if_neg (by decide), if_pos (by omega)]
      unfold f_M_beginsText_84
      rw [Option.bind_some]
      dsimp only
      rw [hτ0]
      unfold mL
      have h := m_rule (i := 0) (by omega) ⟨hM0, hL0⟩ h26 (by simp)
      cases hs : sRu (fun i => σ 2 i) a ((0 : Nat) : Int) 0 [] with
      | inr f =>
        rw [hs] at h
        obtain ⟨τ', b1, -⟩ := h
        rw [b1, Option.bind_some, Option.bind_some]
        rfl
      | inl q =>
        rw [hs] at h
        obtain ⟨τ', K, o, b1, -⟩ := h
        rw [b1, Option.bind_some, Option.bind_some]
        rfl
    have x0 : FR PLx σ σ0 := by
      rw [← hσ0]
      exact (((FR.u (Or.inl rfl)).tr (FR.u (Or.inl rfl))).tr (FR.u (Or.inl rfl))).tr (FR.u (by unfold PLx; omega))
    have y0 : FR QLx τ τ0 := by
      rw [← hτ0]
      exact (((FR.u (by unfold QLx; omega)).tr (FR.u (by unfold QLx; omega))).tr (FR.u (by unfold QLx; omega))).tr (FR.u (by unfold QLx; omega))
    have pW : ∀ k x, PLw k x → PLx k x := fun k x h => by unfold PLw PL at h; unfold PLx; omega
    have qW : ∀ k x, QLw k x → QLx k x := fun k x h => by unfold QLw QL at h; unfold QLx; omega
    rw [eX, eM]
    rcases lw_ls hTB 16 0 4096 4096 0 [] σ0 τ0 (fun _ => (0, 0, 0, 0)) (by omega) (by omega) (by omega) hP0 hC0 hM0 hL0 h26 (by simp) (fun j hj => absurd hj (by omega)) (fun j hj => by omega) (fun j hj => absurd hj (Nat.not_lt_zero _)) with ⟨f, σ', τ', k1, k2, k3, k4, k5, k6⟩ | ⟨m, σe, τe, c, R, k0, k1, k2, k3, k4, k5, k6, k7, k8, k9, k10, k11⟩
    · rw [show ((0 : Nat) : Int) = 0 from rfl] at k2
      rw [k2, k3, Option.bind_some]
      dsimp only
      rw [if_pos k1]
      refine ⟨f, pU σ' 1 1 0, τ', rfl, rfl, ⟨by rw [pU_s, k6], by rw [pU_s]; omega, fun i hi => by rw [pU_s] at hi; omega⟩, fun hLR => ?_, (x0.tr (k4.mono pW)).tr (FR.u (Or.inl rfl)), y0.tr (k5.mono qW)⟩
      exact hLR.mv ((pU_c _ _ _ _ (by decide)).trans ((k4.get (by unfold PLw PL; omega)).trans (n0 _ _ (by decide) (by decide)))) (fun k x h1 h2 => (pU_c _ _ _ _ (by omega)).trans ((k4.get (by unfold PLw PL; omega)).trans (n0 _ _ (by omega) (by omega)))) ((k5.get (by unfold QLw QL; omega)).trans (m0 _ _ (by omega))) (fun k x h1 h2 => (k5.get (by unfold QLw QL; omega)).trans (m0 _ _ (by omega)))
    · rw [show ((0 : Nat) : Int) = 0 from rfl] at k2
      rw [k2, k3, Option.bind_some]
      dsimp only
      rw [if_neg (by omega)]
      unfold f_M_law_84_p71
      rw [if_neg (by decide)]
      generalize hτ1 : pU (pU τe 84 18 0) 84 27 (τe 84 26) = τ1
      have d1 : ∀ k x, ¬ (k = 84 ∧ (x = 18 ∨ x = 27)) → τ1 k x = τe k x := fun k x h => by
        rw [← hτ1]
        unfold pU
        rw [if_neg (by omega), if_neg (by omega)]
      have d27 : τ1 84 27 = (m : Int) := by rw [← hτ1, pU_s]; exact k4
      have d18 : τ1 84 18 = 0 := by rw [← hτ1, pU_i _ _ _ _ (by decide), pU_s]
      obtain ⟨τ2, p1, p2, p3⟩ := m_95 (L := c.length) (by omega) c.length 0 4096 τ1 (by omega) (by omega) ((d1 _ _ (by omega)).trans k6.1) (fun j hj => absurd hj (Nat.not_lt_zero _))
      obtain ⟨τ3, r1, r2, r3⟩ := m_123 (m := m) (by omega) m 0 4096 τ2 (by omega) (by omega) ((p3.get (by unfold Q3; omega)).trans ((d1 _ _ (by omega)).trans k4)) (fun j hj => absurd hj (Nat.not_lt_zero _))
      rw [show ((0 : Nat) : Int) = 0 from rfl] at p1 r1
      rw [p1, r1]
      have g84 : ∀ x, τ3 84 x = τ1 84 x := fun x => (r3.get (by unfold Q4; omega)).trans (p3.get (by unfold Q3; omega))
      have g2 : ∀ k x, k < 103 → τ3 k x = τ1 k x := fun k x h => (r3.get (by unfold Q4; omega)).trans (p3.get (by unfold Q3; omega))
      refine ⟨(m : Int), pU (cpL (pU σe 57 7 (m : Int))) 1 1 0, τ3, rfl, rfl, ⟨by rw [pU_s, g84, d18], by rw [pU_s]; omega, fun i hi => by rw [pU_s] at hi; omega⟩, fun hLR => ?_, ((x0.tr (k9.mono pW)).tr (FR.u (by unfold PLx; omega))).tr ((cpL_fr _).tr (FR.u (Or.inl rfl))), ?_⟩
      · refine ⟨m, c, R, by omega, k7, ?_, ?_, fun i q hq => ?_, fun j hj => ?_⟩
        · simp [pU, cpL]
        · rw [g84, d27]
        · have hi : i < c.length := (List.getElem?_eq_some_iff.mp hq).1
          have e1 := k5.2 i q hq
          have e2 := k6.2 i q hq
          have e3 : τ3 103 i = τe 97 i := by
            rw [r3.get (by unfold Q4; omega), p2 i hi, p3.get (by unfold Q3; omega), d1 _ _ (by omega)]
          have h240 : i < 240 := by omega
          refine ⟨?_, ?_, e3.trans e2.1, e2.2⟩
          · simp [pU, pKp, cpL, h240]
            exact e1.1
          · simp [pU, pKp, cpL, h240]
            exact e1.2
        · obtain ⟨⟨e1, e2, e3, e4⟩, e5, e6, e7, e8⟩ := k8 j hj
          obtain ⟨c1, c2, c3, c4⟩ := r2 j hj
          have x : ∀ k, 99 ≤ k → k ≤ 102 → τ3 k j = τe k j := fun k h1 h2 => (g2 k j (by omega)).trans (d1 _ _ (by omega))
          have h16 : j < 16 := by omega
          have h17 : j < 17 := by omega
          have h17' : j + 1 < 17 := by omega
          refine ⟨⟨?_, ?_, ?_, ?_⟩, by rw [c1, x 99 (by decide) (by decide)]; exact e5, by rw [c2, x 100 (by decide) (by decide)]; exact e6, by rw [c3, x 101 (by decide) (by decide)]; exact e7, by rw [c4, x 102 (by decide) (by decide)]; exact e8, k11 j hj⟩
          · simp [pU, pKp, cpL, h16]
            exact e1
          · simp [pU, pKp, cpL, h17]
            exact e2
          · simp [pU, pKp, cpL, h16]
            exact e3
          · simp only [pU, pKp, cpL]
            simp [h17']
            exact e4
      · have f1 : FR QLx τe τ1 := by
          rw [← hτ1]
          exact (FR.u (by unfold QLx; omega)).tr (FR.u (by unfold QLx; omega))
        exact ((y0.tr (k10.mono qW)).tr f1).tr ((p3.mono (fun k x h => by unfold Q3 at h; unfold QLx; omega)).tr (r3.mono (fun k x h => by unfold Q4 at h; unfold QLx; omega)))
  · have eM : f_M_law_84 a τ = some (-1, τ) := by
      unfold f_M_law_84
      rw [m_in, Option.bind_some]
      dsimp only
      by_cases hc : 1 ≤ a ∧ a ≤ 240
      · rw [if_pos hc, if_neg (by decide), if_neg (by omega)]
      · rw [if_neg hc, if_pos rfl]
    have eX : f_X_law_0 a σ = some (-1, σ) := by
      unfold f_X_law_0
      by_cases h1 : a < 1
      · rw [if_pos h1]
      · rw [if_neg h1]
        by_cases h2 : 240 < a
        · rw [if_pos h2]
        · rw [if_neg h2, if_neg (by omega)]
    exact ⟨-1, σ, τ, eX, eM, hTR', fun h => h, FR.rf _ _, FR.rf _ _⟩
