/-! codes of the reference's laws: what its reader keeps while it builds them, what its reckoner needs of them -/
def uN (n : Nat) (x : Int) (f : Nat → Int) : Nat → Int := fun k => if k = n then x else f k
theorem uN_s (n : Nat) (x : Int) (f : Nat → Int) : uN n x f n = x := if_pos rfl
theorem uN_n {n k : Nat} (x : Int) (f : Nat → Int) (h : k ≠ n) : uN n x f k = f k := if_neg h
def jmp (x : Int) : Prop := x / 1048576 = 11 ∨ x / 1048576 = 12
def qS (x : Int) : Bool := decide (2 ≤ x) && decide (x ≤ 6)
def qN (x : Int) : Bool := !(decide (x = 11) || decide (x = 12))
def cnt (q : Int → Bool) (wt : Nat → Int) : Nat → Int
  | 0 => 0
  | n + 1 => cnt q wt n + (match q (wt n / 1048576) with
    | true => 1
    | false => 0)
theorem cnt_nn {q : Int → Bool} {wt : Nat → Int} : ∀ n : Nat, 0 ≤ cnt q wt n
  | 0 => Int.le_refl 0
  | n + 1 => by
    unfold cnt
    have := cnt_nn (q := q) (wt := wt) n
    split <;> omega
theorem cnt_upd {q : Int → Bool} {wt : Nat → Int} {w : Nat} {x : Int} : ∀ {n : Nat}, n ≤ w → cnt q (uN w x wt) n = cnt q wt n
  | 0, _ => rfl
  | n + 1, h => by
    unfold cnt
    rw [cnt_upd (by omega), uN_n _ _ (by omega)]
theorem cnt_t {q : Int → Bool} {wt : Nat → Int} {n : Nat} (h : q (wt n / 1048576) = true) : cnt q wt (n + 1) = cnt q wt n + 1 := by
  show cnt q wt n + _ = _
  rw [h]
theorem cnt_f {q : Int → Bool} {wt : Nat → Int} {n : Nat} (h : q (wt n / 1048576) = false) : cnt q wt (n + 1) = cnt q wt n := by
  show cnt q wt n + _ = _
  rw [h]
  exact Int.add_zero _
theorem qS_t {x : Int} (h1 : 2 ≤ x) (h2 : x ≤ 6) : qS x = true := by simp [qS, h1, h2]
theorem qS_f {x : Int} (h : x < 2 ∨ 6 < x) : qS x = false := by
  unfold qS
  rw [Bool.and_eq_false_iff]
  rcases h with h | h
  · exact Or.inl (decide_eq_false (by omega))
  · exact Or.inr (decide_eq_false (by omega))
theorem qN_t {x : Int} (h1 : x ≠ 11) (h2 : x ≠ 12) : qN x = true := by simp [qN, h1, h2]
theorem qN_f {x : Int} (h : x = 11 ∨ x = 12) : qN x = false := by
  unfold qN
  rcases h with h | h <;> simp [h]
/-- a code that is closed, with heights D -/
def mOk (f D : Nat → Int) (b k : Nat) : Prop := 0 ≤ f k ∧ ((f k < 1048576 ∧ D (k + 1) ≤ D k + 1) ∨ (1048576 ≤ f k ∧ f k ≤ 1048582 ∧ D (k + 1) ≤ D k + 1) ∨ (f k / 1048576 = 10 ∧ 1 ≤ D k ∧ D (k + 1) ≤ D k) ∨ (jmp (f k) ∧ 1 ≤ D k ∧ D (k + 1) ≤ D k - 1 ∧ (k : Int) < f k % 1048576 ∧ f k % 1048576 ≤ b ∧ D (f k % 1048576).toNat ≤ D k) ∨ (2 ≤ f k / 1048576 ∧ f k / 1048576 ≤ 9 ∧ 2 ≤ D k ∧ D (k + 1) ≤ D k - 1))
/-- a jump that has not landed -/
def mOp (f D : Nat → Int) (k : Nat) : Prop := 0 ≤ f k ∧ jmp (f k) ∧ 1 ≤ D k ∧ D (k + 1) ≤ D k - 1
theorem mOk_up {f f' D D' : Nat → Int} {b b' k : Nat} (h : mOk f D b k) (hf : f' k = f k) (hb : b ≤ b') (h0 : D' k = D k) (h1 : D' (k + 1) ≤ D (k + 1)) (hD : ∀ t, k < t → t ≤ b → D' t ≤ D t) : mOk f' D' b' k := by
  unfold mOk at *
  rw [hf, h0]
  obtain ⟨a, h⟩ := h
  refine ⟨a, ?_⟩
  rcases h with ⟨h, i⟩ | ⟨h, i, j⟩ | ⟨h, i, j⟩ | ⟨h, i, j, m, n, o⟩ | ⟨h, i, j, m⟩
  · exact Or.inl ⟨h, by omega⟩
  · exact Or.inr (Or.inl ⟨h, i, by omega⟩)
  · exact Or.inr (Or.inr (Or.inl ⟨h, i, by omega⟩))
  · have := hD (f k % 1048576).toNat (by omega) (by omega)
    exact Or.inr (Or.inr (Or.inr (Or.inl ⟨h, i, by omega, m, by omega, by omega⟩)))
  · exact Or.inr (Or.inr (Or.inr (Or.inr ⟨h, i, j, by omega⟩)))
theorem mOp_up {f f' D D' : Nat → Int} {k : Nat} (h : mOp f D k) (hf : f' k = f k) (h0 : D' k = D k) (h1 : D' (k + 1) ≤ D (k + 1)) : mOp f' D' k := by
  unfold mOp at *
  rw [hf, h0]
  exact ⟨h.1, h.2.1, h.2.2.1, by have := h.2.2.2; omega⟩
/-- a segment that is closed -/
def mSeg (f : Nat → Int) (a b : Nat) : Prop := a ≤ b ∧ b ≤ 240 ∧ ∃ D : Nat → Int, D a = 0 ∧ ∀ k, a ≤ k → k < b → mOk f D b k
theorem mSeg_same {f f' : Nat → Int} {a b : Nat} (h : mSeg f a b) (hf : ∀ k, k < b → f' k = f k) : mSeg f' a b := by
  obtain ⟨h1, h2, D, h3, h4⟩ := h
  exact ⟨h1, h2, D, h3, fun k hk hb => mOk_up (h4 k hk hb) (hf k hb) (Nat.le_refl _) rfl (Int.le_refl _) (fun _ _ _ => Int.le_refl _)⟩
/-- the heights, the codes, those that wait -/
def pD (s : Nat) (need : Int) (σ : Nat → Int) (c : Nat) (wt : Nat → Int) (w : Nat) (D : Nat → Int) : Prop :=
  D s = 0 ∧ cnt qS wt w + need ≤ D c ∧ (∀ k, s ≤ k → k < c → mOk σ D c k ∨ (mOp σ D k ∧ ∃ j, j < w ∧ jmp (wt j) ∧ wt j % 1048576 = k)) ∧ (∀ j, j < w → jmp (wt j) → (s : Int) ≤ wt j % 1048576 ∧ wt j % 1048576 < c ∧ jmp (σ (wt j % 1048576).toNat) ∧ cnt qS wt j + 1 ≤ D (wt j % 1048576).toNat)
def pZ (g : Nat → Int) (s : Nat) (need how : Int) (B N : Prop) (σ : Nat → Int) (c : Nat) (wt : Nat → Int) (w p : Nat) : Prop :=
  (∀ k, k < s → σ k = g k) ∧ s ≤ c ∧ w ≤ p ∧ (c : Int) + cnt qN wt w + how ≤ p ∧ (B → 1 ≤ w ∧ wt 0 / 1048576 = 13) ∧ (N → ∀ j, j < w → ¬ jmp (wt j)) ∧ (∀ j, j < w → 0 ≤ wt j ∧ ((2 ≤ wt j / 1048576 ∧ wt j / 1048576 ≤ 6) ∨ (10 ≤ wt j / 1048576 ∧ wt j / 1048576 ≤ 14))) ∧ ∃ D : Nat → Int, pD s need σ c wt w D
/-- a code is added -/
theorem pD_add {s : Nat} {need need' d y : Int} {σ : Nat → Int} {c : Nat} {wt : Nat → Int} {w : Nat} {D : Nat → Int} (h : pD s need σ c wt w D) (hs : s ≤ c) (hd : cnt qS wt w + need' ≤ d) (hy : mOk (uN c y σ) (uN (c + 1) d D) (c + 1) c ∨ (mOp (uN c y σ) (uN (c + 1) d D) c ∧ ∃ j, j < w ∧ jmp (wt j) ∧ wt j % 1048576 = c)) : pD s need' (uN c y σ) (c + 1) wt w (uN (c + 1) d D) := by
  obtain ⟨h1, h2, h3, h4⟩ := h
  refine ⟨by rw [uN_n _ _ (by omega)]; exact h1, by rw [uN_s]; exact hd, fun k hk hc => ?_, fun j hj hjm => ?_⟩
  · rcases Nat.lt_or_ge k c with hkc | hkc
    · rcases h3 k hk hkc with h5 | ⟨h5, h6⟩
      · exact Or.inl (mOk_up h5 (uN_n _ _ (by omega)) (by omega) (uN_n _ _ (by omega)) (by rw [uN_n _ _ (by omega)]; exact Int.le_refl _) (fun t _ ht => by rw [uN_n _ _ (by omega)]; exact Int.le_refl _))
      · exact Or.inr ⟨mOp_up h5 (uN_n _ _ (by omega)) (uN_n _ _ (by omega)) (by rw [uN_n _ _ (by omega)]; exact Int.le_refl _), h6⟩
    · have e : k = c := by omega
      subst e
      exact hy
  · obtain ⟨a1, a2, a3, a4⟩ := h4 j hj hjm
    refine ⟨a1, by omega, by rw [uN_n _ _ (by omega)]; exact a3, by rw [uN_n _ _ (by omega)]; exact a4⟩
theorem pZ_val {g : Nat → Int} {s : Nat} {need how y : Int} {B N : Prop} {σ : Nat → Int} {c : Nat} {wt : Nat → Int} {w p p' : Nat} (h : pZ g s need how B N σ c wt w p) (hy : (0 ≤ y ∧ y < 1048576) ∨ (1048576 ≤ y ∧ y ≤ 1048582)) (hp : p + 1 ≤ p') : pZ g s (need + 1) how B N (uN c y σ) (c + 1) wt w p' := by
  obtain ⟨h1, h2, h3, h4, h5, h6, h7, D, h8⟩ := h
  refine ⟨fun k hk => by rw [uN_n _ _ (by omega)]; exact h1 k hk, by omega, by omega, by omega, h5, h6, h7, uN (c + 1) (D c + 1) D, ?_⟩
  refine pD_add h8 h2 (by have := h8.2.1; omega) (Or.inl ?_)
  unfold mOk
  rw [uN_s, uN_s, uN_n _ _ (by omega)]
  refine ⟨by omega, ?_⟩
  rcases hy with hy | hy
  · exact Or.inl ⟨hy.2, Int.le_refl _⟩
  · exact Or.inr (Or.inl ⟨hy.1, hy.2, Int.le_refl _⟩)
/-- the topmost one that waits goes, and is no jump -/
theorem pD_pop {s : Nat} {need need' : Int} {σ : Nat → Int} {c : Nat} {wt : Nat → Int} {w : Nat} {D : Nat → Int} (h : pD s need σ c wt (w + 1) D) (hj : ¬ jmp (wt w)) (hn : cnt qS wt w + need' ≤ D c) : pD s need' σ c wt w D := by
  obtain ⟨h1, h2, h3, h4⟩ := h
  refine ⟨h1, hn, fun k hk hc => ?_, fun j hj1 hjm => h4 j (by omega) hjm⟩
  rcases h3 k hk hc with h5 | ⟨h5, j, h6, h7, h8⟩
  · exact Or.inl h5
  · refine Or.inr ⟨h5, j, ?_, h7, h8⟩
    rcases Nat.lt_or_ge j w with h9 | h9
    · exact h9
    · have e : j = w := by omega
      subst e
      exact absurd h7 hj
/-- a sign that waits is noted: two become one -/
theorem pZ_bin {g : Nat → Int} {s : Nat} {need how y : Int} {B N : Prop} {σ : Nat → Int} {c : Nat} {wt : Nat → Int} {w p : Nat} (h : pZ g s need how B N σ c wt (w + 1) p) (hn : 1 ≤ need) (ht : 2 ≤ wt w / 1048576 ∧ wt w / 1048576 ≤ 6) (hy : y = wt w / 1048576 * 1048576) : pZ g s need how B N (uN c y σ) (c + 1) wt w p := by
  obtain ⟨h1, h2, h3, h4, h5, h6, h7, D, h8⟩ := h
  have hnj : ¬ jmp (wt w) := by unfold jmp; omega
  rw [cnt_t (qN_t (by omega) (by omega))] at h4
  have h9 := h8.2.1
  have hnn := cnt_nn (q := qS) (wt := wt) w
  rw [cnt_t (qS_t ht.1 ht.2)] at h9
  refine ⟨fun k hk => by rw [uN_n _ _ (by omega)]; exact h1 k hk, by omega, by omega, by omega, fun hb => ?_, fun hN j hj => h6 hN j (by omega), fun j hj => h7 j (by omega), uN (c + 1) (D c - 1) D, ?_⟩
  · obtain ⟨a1, a2⟩ := h5 hb
    refine ⟨?_, a2⟩
    rcases Nat.eq_zero_or_pos w with e | e
    · subst e
      omega
    · exact e
  · refine pD_add (pD_pop (need' := need) h8 hnj (by omega)) h2 (by omega) (Or.inl ?_)
    unfold mOk
    rw [uN_s, uN_s, uN_n _ _ (by omega), hy]
    refine ⟨by omega, Or.inr (Or.inr (Or.inr (Or.inr ⟨by omega, by omega, by omega, Int.le_refl _⟩)))⟩
/-- not: noted and gone -/
theorem pZ_not {g : Nat → Int} {s : Nat} {need how : Int} {B N : Prop} {σ : Nat → Int} {c : Nat} {wt : Nat → Int} {w p : Nat} (h : pZ g s need how B N σ c wt (w + 1) p) (hn : 1 ≤ need) (ht : wt w / 1048576 = 10) : pZ g s need how B N (uN c 10485760 σ) (c + 1) wt w p := by
  obtain ⟨h1, h2, h3, h4, h5, h6, h7, D, h8⟩ := h
  have hnj : ¬ jmp (wt w) := by unfold jmp; omega
  rw [cnt_t (qN_t (by omega) (by omega))] at h4
  have h9 := h8.2.1
  have hnn := cnt_nn (q := qS) (wt := wt) w
  rw [cnt_f (qS_f (by omega))] at h9
  refine ⟨fun k hk => by rw [uN_n _ _ (by omega)]; exact h1 k hk, by omega, by omega, by omega, fun hb => ?_, fun hN j hj => h6 hN j (by omega), fun j hj => h7 j (by omega), uN (c + 1) (D c) D, ?_⟩
  · obtain ⟨a1, a2⟩ := h5 hb
    refine ⟨?_, a2⟩
    rcases Nat.eq_zero_or_pos w with e | e
    · subst e
      omega
    · exact e
  · refine pD_add (pD_pop (need' := need) h8 hnj (by omega)) h2 (by omega) (Or.inl ?_)
    unfold mOk
    rw [uN_s, uN_s, uN_n _ _ (by omega)]
    refine ⟨by omega, Or.inr (Or.inr (Or.inl ⟨by omega, by omega, Int.le_refl _⟩))⟩
/-- a comparison: two become one -/
theorem pZ_cmp {g : Nat → Int} {s : Nat} {y : Int} {B N : Prop} {σ : Nat → Int} {c : Nat} {wt : Nat → Int} {w p : Nat} (h : pZ g s 2 1 B N σ c wt w p) (hy : y = 7340032 ∨ y = 8388608 ∨ y = 9437184) : pZ g s 1 0 B N (uN c y σ) (c + 1) wt w p := by
  obtain ⟨h1, h2, h3, h4, h5, h6, h7, D, h8⟩ := h
  have h9 := h8.2.1
  have hnn := cnt_nn (q := qS) (wt := wt) w
  refine ⟨fun k hk => by rw [uN_n _ _ (by omega)]; exact h1 k hk, by omega, by omega, by omega, h5, h6, h7, uN (c + 1) (D c - 1) D, ?_⟩
  refine pD_add h8 h2 (by omega) (Or.inl ?_)
  unfold mOk
  rw [uN_s, uN_s, uN_n _ _ (by omega)]
  refine ⟨by omega, Or.inr (Or.inr (Or.inr (Or.inr ⟨by omega, by omega, by omega, Int.le_refl _⟩)))⟩
/-- one more waits: a sign (takes one away), or what opens -/
theorem pD_push {s : Nat} {need need' x : Int} {σ : Nat → Int} {c : Nat} {wt : Nat → Int} {w : Nat} {D : Nat → Int} (h : pD s need σ c wt w D) (hj : ¬ jmp x) (hn : cnt qS (uN w x wt) (w + 1) + need' ≤ D c) : pD s need' σ c (uN w x wt) (w + 1) D := by
  obtain ⟨h1, h2, h3, h4⟩ := h
  refine ⟨h1, hn, fun k hk hc => ?_, fun j hj1 hjm => ?_⟩
  · rcases h3 k hk hc with h5 | ⟨h5, j, h6, h7, h8⟩
    · exact Or.inl h5
    · exact Or.inr ⟨h5, j, by omega, by rw [uN_n _ _ (by omega)]; exact h7, by rw [uN_n _ _ (by omega)]; exact h8⟩
  · rcases Nat.lt_or_ge j w with h9 | h9
    · rw [uN_n _ _ (by omega)] at hjm ⊢
      rw [cnt_upd (by omega)]
      exact h4 j h9 hjm
    · have e : j = w := by omega
      subst e
      rw [uN_s] at hjm
      exact absurd hjm hj
theorem pZ_push {g : Nat → Int} {s : Nat} {need need' how x : Int} {B B' N : Prop} {σ : Nat → Int} {c : Nat} {wt : Nat → Int} {w p : Nat} (h : pZ g s need how B N σ c wt w p) (hx : 0 ≤ x ∧ (((2 ≤ x / 1048576 ∧ x / 1048576 ≤ 6) ∧ need' + 1 = need) ∨ ((x / 1048576 = 10 ∨ x / 1048576 = 13 ∨ x / 1048576 = 14) ∧ need' = need))) (hB : B' → B ∨ (w = 0 ∧ x / 1048576 = 13)) : pZ g s need' how B' N σ c (uN w x wt) (w + 1) (p + 1) := by
  obtain ⟨h1, h2, h3, h4, h5, h6, h7, D, h8⟩ := h
  have hnj : ¬ jmp x := by unfold jmp; omega
  have h9 := h8.2.1
  have e1 : cnt qN (uN w x wt) (w + 1) = cnt qN wt w + 1 := by
    rw [cnt_t (by rw [uN_s]; exact qN_t (by omega) (by omega)), cnt_upd (Nat.le_refl _)]
  refine ⟨h1, h2, by omega, by rw [e1]; omega, fun hb => ?_, fun hN j hj => ?_, fun j hj => ?_, D, pD_push h8 hnj ?_⟩
  · rcases hB hb with hb | ⟨rfl, hb⟩
    · obtain ⟨a1, a2⟩ := h5 hb
      exact ⟨by omega, by rw [uN_n _ _ (by omega)]; exact a2⟩
    · exact ⟨by omega, by rw [uN_s]; exact hb⟩
  · rcases Nat.lt_or_ge j w with h10 | h10
    · rw [uN_n _ _ (by omega)]
      exact h6 hN j h10
    · have e : j = w := by omega
      subst e
      rw [uN_s]
      exact hnj
  · rcases Nat.lt_or_ge j w with h10 | h10
    · rw [uN_n _ _ (by omega)]
      exact h7 j h10
    · have e : j = w := by omega
      subst e
      rw [uN_s]
      exact ⟨hx.1, by omega⟩
  · rcases hx.2 with ⟨hx1, hx2⟩ | ⟨hx1, hx2⟩
    · rw [cnt_t (by rw [uN_s]; exact qS_t hx1.1 hx1.2), cnt_upd (Nat.le_refl _)]
      omega
    · rw [cnt_f (by rw [uN_s]; exact qS_f (by omega)), cnt_upd (Nat.le_refl _)]
      omega
theorem pZ_pop {g : Nat → Int} {s : Nat} {need how : Int} {B B' N : Prop} {σ : Nat → Int} {c : Nat} {wt : Nat → Int} {w p : Nat} (h : pZ g s need how B N σ c wt (w + 1) p) (ht : ¬ jmp (wt w)) (hB : B' → B ∧ 1 ≤ w) : pZ g s need how B' N σ c wt w p := by
  obtain ⟨h1, h2, h3, h4, h5, h6, h7, D, h8⟩ := h
  have h9 := h8.2.1
  have hm : cnt qS wt w ≤ cnt qS wt (w + 1) := by
    show cnt qS wt w ≤ cnt qS wt w + _
    split <;> omega
  have hm2 : cnt qN wt w ≤ cnt qN wt (w + 1) := by
    show cnt qN wt w ≤ cnt qN wt w + _
    split <;> omega
  exact ⟨h1, h2, by omega, by omega, fun hb => ⟨(hB hb).2, (h5 (hB hb).1).2⟩, fun hN j hj => h6 hN j (by omega), fun j hj => h7 j (by omega), D, pD_pop h8 ht (by omega)⟩
/-- a place further -/
theorem pZ_on {g : Nat → Int} {s : Nat} {need how how' : Int} {B N : Prop} {σ : Nat → Int} {c : Nat} {wt : Nat → Int} {w p p' : Nat} (h : pZ g s need how B N σ c wt w p) (hp : p ≤ p') (hh : how' - how ≤ (p' : Int) - p) : pZ g s need how' B N σ c wt w p' := by
  obtain ⟨h1, h2, h3, h4, h⟩ := h
  exact ⟨h1, h2, by omega, by omega, h⟩
/-- a jump: noted, and waits for its landing -/
theorem pZ_jmp {g : Nat → Int} {s : Nat} {o : Int} {B N : Prop} {σ : Nat → Int} {c : Nat} {wt : Nat → Int} {w p : Nat} (h : pZ g s 1 0 B N σ c wt w p) (ho : o = 11534336 ∨ o = 12582912) (hc : (c : Int) < 1048576) : pZ g s 0 0 B False (uN c o σ) (c + 1) (uN w (o + c) wt) (w + 1) (p + 1) := by
  obtain ⟨h1, h2, h3, h4, h5, h6, h7, D, h8⟩ := h
  have hj : jmp (o + c) := by unfold jmp; omega
  have hjo : jmp o := by unfold jmp; omega
  have hm : (o + c) % 1048576 = c := by omega
  have h9 := h8.2.1
  have hnn := cnt_nn (q := qS) (wt := wt) w
  have e1 : cnt qN (uN w (o + c) wt) (w + 1) = cnt qN wt w := by
    rw [cnt_f (by rw [uN_s]; exact qN_f hj), cnt_upd (Nat.le_refl _)]
  have e2 : cnt qS (uN w (o + c) wt) (w + 1) = cnt qS wt w := by
    rw [cnt_f (by rw [uN_s]; exact qS_f (by unfold jmp at hj; omega)), cnt_upd (Nat.le_refl _)]
  refine ⟨fun k hk => by rw [uN_n _ _ (by omega)]; exact h1 k hk, by omega, by omega, by rw [e1]; omega, fun hb => ?_, fun hN => hN.elim, fun j hj1 => ?_, uN (c + 1) (D c - 1) D, ?_⟩
  · obtain ⟨a1, a2⟩ := h5 hb
    exact ⟨by omega, by rw [uN_n _ _ (by omega)]; exact a2⟩
  · rcases Nat.lt_or_ge j w with h10 | h10
    · rw [uN_n _ _ (by omega)]
      exact h7 j h10
    · have e : j = w := by omega
      subst e
      rw [uN_s]
      unfold jmp at hj
      exact ⟨by omega, by omega⟩
  · obtain ⟨d1, d2, d3, d4⟩ := h8
    refine ⟨by rw [uN_n _ _ (by omega)]; exact d1, by rw [uN_s, e2]; omega, fun k hk hkc => ?_, fun j hj1 hjm => ?_⟩
    · rcases Nat.lt_or_ge k c with hkc | hkc
      · rcases d3 k hk hkc with h5 | ⟨h5, j, h6, h7, h8⟩
        · exact Or.inl (mOk_up h5 (uN_n _ _ (by omega)) (by omega) (uN_n _ _ (by omega)) (by rw [uN_n _ _ (by omega)]; exact Int.le_refl _) (fun t _ ht => by rw [uN_n _ _ (by omega)]; exact Int.le_refl _))
        · exact Or.inr ⟨mOp_up h5 (uN_n _ _ (by omega)) (uN_n _ _ (by omega)) (by rw [uN_n _ _ (by omega)]; exact Int.le_refl _), j, by omega, by rw [uN_n _ _ (by omega)]; exact h7, by rw [uN_n _ _ (by omega)]; exact h8⟩
      · have e : k = c := by omega
        subst e
        refine Or.inr ⟨?_, w, by omega, by rw [uN_s]; exact hj, by rw [uN_s]; exact hm⟩
        unfold mOp
        rw [uN_s, uN_s, uN_n _ _ (by omega)]
        exact ⟨by omega, hjo, by omega, Int.le_refl _⟩
    · rcases Nat.lt_or_ge j w with h10 | h10
      · rw [uN_n _ _ (by omega)] at hjm ⊢
        rw [cnt_upd (by omega)]
        obtain ⟨a1, a2, a3, a4⟩ := d4 j h10 hjm
        exact ⟨a1, by omega, by rw [uN_n _ _ (by omega)]; exact a3, by rw [uN_n _ _ (by omega)]; exact a4⟩
      · have e : j = w := by omega
        subst e
        rw [uN_s, hm, cnt_upd (Nat.le_refl _)]
        refine ⟨by omega, by omega, ?_, ?_⟩
        · rw [show (c : Int).toNat = c from rfl, uN_s]
          exact hjo
        · rw [show (c : Int).toNat = c from rfl, uN_n _ _ (by omega)]
          omega
/-- a jump lands -/
theorem pZ_land {g : Nat → Int} {s : Nat} {B N : Prop} {σ : Nat → Int} {c : Nat} {wt : Nat → Int} {w p f : Nat} (h : pZ g s 1 0 B N σ c wt (w + 1) p) (ht : jmp (wt w)) (hf : wt w % 1048576 = f) (hc : (c : Int) < 1048576) : pZ g s 1 0 B N (uN f (1048576 * (σ f / 1048576) + c) σ) c wt w p := by
  obtain ⟨h1, h2, h3, h4, h5, h6, h7, D, h8⟩ := h
  obtain ⟨d1, d2, d3, d4⟩ := h8
  obtain ⟨a1, a2, a3, a4⟩ := d4 w (by omega) ht
  rw [hf] at a1 a2 a3 a4
  rw [show (f : Int).toNat = f from rfl] at a3 a4
  have e1 : cnt qN wt (w + 1) = cnt qN wt w := cnt_f (qN_f ht)
  have e2 : cnt qS wt (w + 1) = cnt qS wt w := cnt_f (qS_f (by unfold jmp at ht; omega))
  have hnn := cnt_nn (q := qS) (wt := wt) w
  rw [e1] at h4
  rw [e2] at d2
  have hcf : mOk σ D c f ∨ mOp σ D f := by
    rcases d3 f (by omega) (by omega) with h | h
    · exact Or.inl h
    · exact Or.inr h.1
  have hf0 : 0 ≤ σ f ∧ D (f + 1) ≤ D f - 1 := by
    rcases hcf with h | h
    · refine ⟨h.1, ?_⟩
      unfold jmp at a3
      rcases h.2 with h | h | h | h | h
      · omega
      · omega
      · omega
      · exact h.2.2.1
      · omega
    · exact ⟨h.1, h.2.2.2⟩
  have hv : (1048576 * (σ f / 1048576) + (c : Int)) / 1048576 = σ f / 1048576 := by omega
  have hv2 : (1048576 * (σ f / 1048576) + (c : Int)) % 1048576 = c := by omega
  refine ⟨fun k hk => by rw [uN_n _ _ (by omega)]; exact h1 k hk, h2, by omega, h4, fun hb => ?_, fun hN j hj => h6 hN j (by omega), fun j hj => h7 j (by omega), uN c (cnt qS wt w + 1) D, ?_, ?_, fun k hk hkc => ?_, fun j hj hjm => ?_⟩
  · obtain ⟨b1, b2⟩ := h5 hb
    refine ⟨?_, b2⟩
    rcases Nat.eq_zero_or_pos w with e | e
    · subst e
      unfold jmp at ht
      omega
    · exact e
  · rw [uN_n _ _ (by omega)]
    exact d1
  · rw [uN_s]
    exact Int.le_refl _
  · have hle : ∀ t, uN c (cnt qS wt w + 1) D t ≤ D t := fun t => by
      by_cases e : t = c
      · subst e
        rw [uN_s]
        omega
      · rw [uN_n _ _ e]
        exact Int.le_refl _
    by_cases hkf : k = f
    · subst hkf
      refine Or.inl ?_
      have e0 : uN c (cnt qS wt w + 1) D k = D k := uN_n _ _ (by omega)
      unfold mOk
      rw [uN_s, hv2, e0, show (c : Int).toNat = c from rfl, uN_s]
      have := hle (k + 1)
      unfold jmp at a3 ⊢
      refine ⟨by omega, Or.inr (Or.inr (Or.inr (Or.inl ⟨by rw [hv]; exact a3, by omega, by omega, by omega, Int.le_refl _, a4⟩)))⟩
    · rcases d3 k hk hkc with h | ⟨h, j, h6, h7, h8⟩
      · exact Or.inl (mOk_up h (uN_n _ _ hkf) (Nat.le_refl _) (uN_n _ _ (by omega)) (hle _) (fun t _ _ => hle t))
      · refine Or.inr ⟨mOp_up h (uN_n _ _ hkf) (uN_n _ _ (by omega)) (hle _), j, ?_, h7, h8⟩
        rcases Nat.lt_or_ge j w with h9 | h9
        · exact h9
        · have e : j = w := by omega
          subst e
          omega
  · obtain ⟨b1, b2, b3, b4⟩ := d4 j (by omega) hjm
    refine ⟨b1, b2, ?_, ?_⟩
    · by_cases e : (wt j % 1048576).toNat = f
      · rw [e, uN_s]
        unfold jmp at a3 ⊢
        rw [hv]
        exact a3
      · rw [uN_n _ _ e]
        exact b3
    · rw [uN_n _ _ (by omega)]
      exact b4
/-- a new segment begins -/
theorem pZ_new {g σ : Nat → Int} {c p : Nat} {wt : Nat → Int} (hg : ∀ k, k < c → σ k = g k) (hc : c ≤ p) : pZ g c 0 0 False True σ c wt 0 p := by
  refine ⟨hg, Nat.le_refl _, Nat.zero_le _, by show (c : Int) + 0 + 0 ≤ p; omega, fun h => h.elim, fun _ j hj => absurd hj (Nat.not_lt_zero _), fun j hj => absurd hj (Nat.not_lt_zero _), fun _ => 0, rfl, Int.le_refl _, fun k h1 h2 => by omega, fun j hj => absurd hj (Nat.not_lt_zero _)⟩
/-- a segment is closed: where no jump waits -/
theorem pZ_end {g : Nat → Int} {s : Nat} {need how : Int} {B N : Prop} {σ : Nat → Int} {c : Nat} {wt : Nat → Int} {w p : Nat} (h : pZ g s need how B N σ c wt w p) (hN : N ∨ w = 0) (hc : c ≤ 240) : mSeg σ s c := by
  obtain ⟨h1, h2, h3, h4, h5, h6, h7, D, d1, d2, d3, d4⟩ := h
  refine ⟨h2, hc, D, d1, fun k hk hkc => ?_⟩
  rcases d3 k hk hkc with h | ⟨h, j, h8, h9, h10⟩
  · exact h
  · rcases hN with hN | hN
    · exact absurd h9 (h6 hN j h8)
    · omega
