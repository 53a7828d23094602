/-- at how many of the first places two differ -/
def dC (f g : Nat → Int) : Nat → Nat
  | 0 => 0
  | k + 1 => if f k = g k then dC f g k else dC f g k + 1
theorem dC_le (f g : Nat → Int) : ∀ k, dC f g k ≤ k
  | 0 => Nat.le_refl 0
  | k + 1 => by
    have := dC_le f g k
    unfold dC
    split <;> omega
theorem dC_cg {f g f' g' : Nat → Int} : ∀ k, (∀ j, j < k → f j = f' j) → (∀ j, j < k → g j = g' j) → dC f g k = dC f' g' k
  | 0, _, _ => rfl
  | k + 1, h1, h2 => by
    unfold dC
    rw [h1 k (by omega), h2 k (by omega), dC_cg k (fun j hj => h1 j (by omega)) (fun j hj => h2 j (by omega))]
theorem dx_8 {σ : pS} (c0 : Nat) (h0 : c0 ≤ 100) : ∀ (d i fu : Nat), i + d = 8 → d < fu → f_X_differing_29_67_p4 fu ((c0 + dC (σ 29) (σ 67) i : Nat) : Int) (i : Int) σ = some (((c0 + dC (σ 29) (σ 67) 8 : Nat) : Int), σ)
  | 0, i, fu, hi, hf => by
    obtain ⟨n, rfl⟩ : ∃ n, fu = n + 1 := ⟨fu - 1, by omega⟩
    obtain rfl : i = 8 := by omega
    show (if (8 : Int) ≤ ((8 : Nat) : Int) then _ else _) = _
    rw [if_pos (by decide)]
  | d + 1, i, fu, hi, hf => by
    obtain ⟨n, rfl⟩ : ∃ n, fu = n + 1 := ⟨fu - 1, by omega⟩
    have ih := dx_8 (σ := σ) c0 h0 d (i + 1) n (by omega) (by omega)
    have g : (0 : Int) ≤ (i : Int) ∧ (i : Int) < 8 := by omega
    have hl := dC_le (σ 29) (σ 67) i
    have hc : c0 + dC (σ 29) (σ 67) i < 1000 := by omega
    have iL : i < 8 := by omega
    have k1 : ¬ (8 : Int) ≤ (i : Int) := by omega
    show (if (8 : Int) ≤ (i : Int) then _ else _) = _
    rw [if_neg k1, if_neg k1, if_pos g, if_pos g, Int.toNat_natCast, pw_s iL (by decide), pw_s hc (by decide)]
    by_cases z : σ 29 i = σ 67 i
    · rw [if_pos z]
      have e : dC (σ 29) (σ 67) (i + 1) = dC (σ 29) (σ 67) i := if_pos z
      rw [e] at ih
      exact ih
    · rw [if_neg z]
      have e : dC (σ 29) (σ 67) (i + 1) = dC (σ 29) (σ 67) i + 1 := if_neg z
      rw [e] at ih
      exact ih
theorem dx_64 {σ : pS} (c0 : Nat) (h0 : c0 ≤ 100) : ∀ (d i fu : Nat), i + d = 64 → d < fu → f_X_differing_30_68_p4 fu ((c0 + dC (σ 30) (σ 68) i : Nat) : Int) (i : Int) σ = some (((c0 + dC (σ 30) (σ 68) 64 : Nat) : Int), σ)
  | 0, i, fu, hi, hf => by
    obtain ⟨n, rfl⟩ : ∃ n, fu = n + 1 := ⟨fu - 1, by omega⟩
    obtain rfl : i = 64 := by omega
    show (if (64 : Int) ≤ ((64 : Nat) : Int) then _ else _) = _
    rw [if_pos (by decide)]
  | d + 1, i, fu, hi, hf => by
    obtain ⟨n, rfl⟩ : ∃ n, fu = n + 1 := ⟨fu - 1, by omega⟩
    have ih := dx_64 (σ := σ) c0 h0 d (i + 1) n (by omega) (by omega)
    have g : (0 : Int) ≤ (i : Int) ∧ (i : Int) < 64 := by omega
    have hl := dC_le (σ 30) (σ 68) i
    have hc : c0 + dC (σ 30) (σ 68) i < 1000 := by omega
    have iL : i < 64 := by omega
    have k1 : ¬ (64 : Int) ≤ (i : Int) := by omega
    show (if (64 : Int) ≤ (i : Int) then _ else _) = _
    rw [if_neg k1, if_neg k1, if_pos g, if_pos g, Int.toNat_natCast, pw_s iL (by decide), pw_s hc (by decide)]
    by_cases z : σ 30 i = σ 68 i
    · rw [if_pos z]
      have e : dC (σ 30) (σ 68) (i + 1) = dC (σ 30) (σ 68) i := if_pos z
      rw [e] at ih
      exact ih
    · rw [if_neg z]
      have e : dC (σ 30) (σ 68) (i + 1) = dC (σ 30) (σ 68) i + 1 := if_neg z
      rw [e] at ih
      exact ih
theorem dm_8 {σ : pS} (c0 : Nat) (h0 : c0 ≤ 100) : ∀ (d i fu : Nat), i + d = 8 → d < fu → f_M_unlike_84_p30 fu ((c0 + dC (σ 130) (σ 140) i : Nat) : Int) (i : Int) σ = f_M_unlike_84_p63 4096 ((c0 + dC (σ 130) (σ 140) 8 : Nat) : Int) 0 σ
  | 0, i, fu, hi, hf => by
    obtain ⟨n, rfl⟩ : ∃ n, fu = n + 1 := ⟨fu - 1, by omega⟩
    obtain rfl : i = 8 := by omega
    show (if (8 : Int) ≤ ((8 : Nat) : Int) then _ else _) = _
    rw [if_pos (by decide)]
  | d + 1, i, fu, hi, hf => by
    obtain ⟨n, rfl⟩ : ∃ n, fu = n + 1 := ⟨fu - 1, by omega⟩
    have ih := dm_8 (σ := σ) c0 h0 d (i + 1) n (by omega) (by omega)
    have g : (0 : Int) ≤ (i : Int) ∧ (i : Int) < 8 := by omega
    have hl := dC_le (σ 130) (σ 140) i
    have hc : c0 + dC (σ 130) (σ 140) i < 1000 := by omega
    have iL : i < 8 := by omega
    have k1 : ¬ (8 : Int) ≤ (i : Int) := by omega
    show (if (8 : Int) ≤ (i : Int) then _ else _) = _
    rw [if_neg k1, if_pos g, if_pos g, Int.toNat_natCast, pw_s iL (by decide), pw_s hc (by decide)]
    by_cases z : σ 130 i = σ 140 i
    · rw [if_pos z]
      have e : dC (σ 130) (σ 140) (i + 1) = dC (σ 130) (σ 140) i := if_pos z
      rw [e] at ih
      exact ih
    · rw [if_neg z]
      have e : dC (σ 130) (σ 140) (i + 1) = dC (σ 130) (σ 140) i + 1 := if_neg z
      rw [e] at ih
      exact ih
theorem dm_64 {σ : pS} (c0 : Nat) (h0 : c0 ≤ 100) : ∀ (d i fu : Nat), i + d = 64 → d < fu → f_M_unlike_84_p63 fu ((c0 + dC (σ 128) (σ 141) i : Nat) : Int) (i : Int) σ = some (((c0 + dC (σ 128) (σ 141) 64 : Nat) : Int), σ)
  | 0, i, fu, hi, hf => by
    obtain ⟨n, rfl⟩ : ∃ n, fu = n + 1 := ⟨fu - 1, by omega⟩
    obtain rfl : i = 64 := by omega
    show (if (64 : Int) ≤ ((64 : Nat) : Int) then _ else _) = _
    rw [if_pos (by decide)]
  | d + 1, i, fu, hi, hf => by
    obtain ⟨n, rfl⟩ : ∃ n, fu = n + 1 := ⟨fu - 1, by omega⟩
    have ih := dm_64 (σ := σ) c0 h0 d (i + 1) n (by omega) (by omega)
    have g : (0 : Int) ≤ (i : Int) ∧ (i : Int) < 64 := by omega
    have hl := dC_le (σ 128) (σ 141) i
    have hc : c0 + dC (σ 128) (σ 141) i < 1000 := by omega
    have iL : i < 64 := by omega
    have k1 : ¬ (64 : Int) ≤ (i : Int) := by omega
    show (if (64 : Int) ≤ (i : Int) then _ else _) = _
    rw [if_neg k1, if_pos g, if_pos g, Int.toNat_natCast, pw_s iL (by decide), pw_s hc (by decide)]
    by_cases z : σ 128 i = σ 141 i
    · rw [if_pos z]
      have e : dC (σ 128) (σ 141) (i + 1) = dC (σ 128) (σ 141) i := if_pos z
      rw [e] at ih
      exact ih
    · rw [if_neg z]
      have e : dC (σ 128) (σ 141) (i + 1) = dC (σ 128) (σ 141) i + 1 := if_neg z
      rw [e] at ih
      exact ih
section HB
variable {N m : Nat} {rec : Nat → O8} {σ τ σ' τ' : pS}
theorem w_unlike (a : Int) (h : WR N σ τ) : ∃ v σ' τ', f_X_unlike_0 a σ = some (v, σ') ∧ f_M_unlike_84 a τ = some (v, τ') ∧ WS N σ τ σ' τ' := by
  obtain ⟨m, rec, hG⟩ := h.2.1.pg
  unfold f_X_unlike_0 f_M_unlike_84
  rw [x_can hG.cm, m_can hG.mm, Option.bind_some, Option.bind_some]
  dsimp only
  by_cases g : (1 ≤ a ∧ a ≤ 4) ∧ 0 < m
  · rw [if_pos g, if_neg (show ¬ (1 : Int) = 0 by decide), if_neg (show ¬ (1 : Int) = 0 by decide)]
    obtain ⟨σ1, τ1, q1, q2, q0, q3⟩ := it_ls (w := a) (Or.inl rfl) hG h
    rcases q3 with ⟨r1, r2⟩ | ⟨t, r1, r2, r3, -, r5, r6, -⟩
    · rw [r1, r2, Option.bind_some, Option.bind_some]
      exact ⟨-5, σ1, τ1, rfl, rfl, ⟨q2.mono (by omega), q0⟩⟩
    · rw [r1, r2, Option.bind_some, Option.bind_some]
      dsimp only
      rw [if_neg (show ¬ t = -5 by omega), if_neg (show ¬ (1 : Int) = 0 by decide)]
      obtain ⟨m1, rec1, hG1⟩ := q2.2.1.pg
      obtain ⟨σ2, τ2, p1, p2, p3, p4, p5, p6, -⟩ := gpl_ls hG1 q2.2.2.2.1
      have c1 : f_X_differing_29_67 σ2 = some (((0 + dC (σ2 29) (σ2 67) 8 : Nat) : Int), σ2) := dx_8 0 (by decide) 8 0 4096 (by omega) (by omega)
      have c2 : f_X_differing_30_68 σ2 = some (((0 + dC (σ2 30) (σ2 68) 64 : Nat) : Int), σ2) := dx_64 0 (by decide) 64 0 4096 (by omega) (by omega)
      have l8 := dC_le (τ2 130) (τ2 140) 8
      have l64 := dC_le (τ2 128) (τ2 141) 64
      have c3 : f_M_unlike_84_p30 4096 0 0 τ2 = f_M_unlike_84_p63 4096 ((0 + dC (τ2 130) (τ2 140) 8 : Nat) : Int) 0 τ2 := dm_8 0 (by decide) 8 0 4096 (by omega) (by omega)
      have c4 : f_M_unlike_84_p63 4096 ((0 + dC (τ2 130) (τ2 140) 8 : Nat) : Int) 0 τ2 = some (((0 + dC (τ2 130) (τ2 140) 8 + dC (τ2 128) (τ2 141) 64 : Nat) : Int), τ2) := dm_64 (0 + dC (τ2 130) (τ2 140) 8) (by omega) 64 0 4096 (by omega) (by omega)
      have e1 : dC (σ2 29) (σ2 67) 8 = dC (τ2 130) (τ2 140) 8 := dC_cg 8 (fun j hj => by rw [p3.get (by unfold Ppl; omega), p4.get (by unfold Qpl; omega)]; exact r5 j hj) p5
      have e2 : dC (σ2 30) (σ2 68) 64 = dC (τ2 128) (τ2 141) 64 := dC_cg 64 (fun j hj => by rw [p3.get (by unfold Ppl; omega), p4.get (by unfold Qpl; omega)]; exact r6 j hj) p6
      rw [p1, p2, Option.bind_some, Option.bind_some]
      dsimp only
      rw [c1, Option.bind_some]
      dsimp only
      rw [c2, Option.bind_some, c3, c4, e1, e2]
      dsimp only
      have ep : pw (((0 + dC (τ2 130) (τ2 140) 8 : Nat) : Int) + ((0 + dC (τ2 128) (τ2 141) 64 : Nat) : Int)) = ((0 + dC (τ2 130) (τ2 140) 8 + dC (τ2 128) (τ2 141) 64 : Nat) : Int) := by
        rw [pw_id (by omega) (by omega)]
        omega
      rw [ep]
      have z1 : XOf σ1 σ2 := XOf.of p3 (fun k x z => by unfold Ppl at z; omega)
      have z2 : MOf τ1 τ2 := MOf.of p4 (fun k x z => by unfold Qpl at z; omega)
      exact ⟨_, σ2, τ2, rfl, rfl, q2.q (p3.eq Ppl_A) (p4.eq Qpl_A), fun k x y z => (z1 k x y z).trans (q0.1 k x y z), fun k x y => (z2 k x y).trans (q0.2 k x y)⟩
  · rw [if_neg g, if_pos rfl, if_pos rfl]
    exact ⟨_, _, _, rfl, rfl, h.sm⟩
theorem pAnd_63d (a : Int) (h0 : -2147483648 ≤ a) (h1 : a ≤ 2147483647) : pAnd (pw a) 63 = a % 64 := pAnd_63e a
/-- a load and a store share a byte, in the reference -/
theorem hv_lp {i k sl ss : Nat} {pl ps : Int} (hi : i < 20) (hk : k < 20) (hl : τ 93 i = (sl : Int)) (hs : τ 93 k = (ss : Int)) (sl4 : sl ≤ 4) (h1 : τ 142 i = pl) (h2 : τ 142 k = ps) (b1 : 0 ≤ pl ∧ pl < 64) (b2 : 0 ≤ ps ∧ ps < 64) : ∀ (d e fu : Nat), e + d = sl → d < fu → ∃ b : Int, f_M_haveByte_84_p2 fu (i : Int) (k : Int) (e : Int) τ = some (b, τ) ∧ ((b = 1 ∧ ∃ x : Nat, e ≤ x ∧ x < sl ∧ (pl + (x : Int) - ps) % 64 < (ss : Int)) ∨ (b = 0 ∧ ¬ ∃ x : Nat, e ≤ x ∧ x < sl ∧ (pl + (x : Int) - ps) % 64 < (ss : Int)))
  | 0, e, fu, he, hf => by
    obtain ⟨n, rfl⟩ : ∃ n, fu = n + 1 := ⟨fu - 1, by omega⟩
    have g : (0 : Int) ≤ (i : Int) ∧ (i : Int) < 20 := by omega
    refine ⟨0, ?_, Or.inr ⟨rfl, ?_⟩⟩
    · show (if (0 : Int) ≤ (i : Int) ∧ (i : Int) < 20 then _ else _) = _
      rw [if_pos g, Int.toNat_natCast, hl, if_pos (by omega)]
    · rintro ⟨x, x1, x2, -⟩
      omega
  | d + 1, e, fu, he, hf => by
    obtain ⟨n, rfl⟩ : ∃ n, fu = n + 1 := ⟨fu - 1, by omega⟩
    have g : (0 : Int) ≤ (i : Int) ∧ (i : Int) < 20 := by omega
    have gk : (0 : Int) ≤ (k : Int) ∧ (k : Int) < 20 := by omega
    have he4 : e < 4 := by omega
    have k1 : ¬ (sl : Int) ≤ (e : Int) := by omega
    obtain ⟨b, q1, q2⟩ := hv_lp hi hk hl hs sl4 h1 h2 b1 b2 d (e + 1) n (by omega) (by omega)
    have ew : pw (pl + (e : Int)) = pl + (e : Int) := pw_id (by omega) (by omega)
    have eX : f_M_haveByte_84_p2 (n + 1) (i : Int) (k : Int) (e : Int) τ = (if (ss : Int) ≤ (pl + (e : Int) - ps) % 64 then f_M_haveByte_84_p2 n (i : Int) (k : Int) ((e + 1 : Nat) : Int) τ else some (1, τ)) := by
      show (if (0 : Int) ≤ (i : Int) ∧ (i : Int) < 20 then _ else _) = _
      rw [if_pos g, Int.toNat_natCast, hl, if_neg k1, if_pos g, if_pos gk, if_pos gk, Int.toNat_natCast, hs, h1, h2, ew, pAnd_63e, pw_s he4 (by decide)]
    clear ew
    rw [eX]
    by_cases z : (ss : Int) ≤ (pl + (e : Int) - ps) % 64
    · rw [if_pos z]
      refine ⟨b, q1, ?_⟩
      rcases q2 with ⟨y1, x, x1, x2, x3⟩ | ⟨y1, y2⟩
      · exact Or.inl ⟨y1, x, by omega, x2, x3⟩
      · refine Or.inr ⟨y1, ?_⟩
        rintro ⟨x, x1, x2, x3⟩
        by_cases hx : x = e
        · rw [hx] at x3; omega
        · exact y2 ⟨x, by omega, x2, x3⟩
    · rw [if_neg z]
      exact ⟨1, rfl, Or.inl ⟨rfl, e, Nat.le_refl _, by omega, by omega⟩⟩
theorem x_cov (p s a : Int) (σ : pS) : f_X_covers p s a σ = some (if (a - p) % 64 < s then 1 else 0, σ) := by
  unfold f_X_covers
  rw [pAnd_63e]
  by_cases z : s ≤ (a - p) % 64
  · rw [if_pos z, if_neg (by omega)]
  · rw [if_neg z, if_pos (by omega)]
theorem meet_ls (hG : PG m rec σ τ) (h : PLr m σ τ) {i k : Nat} (hi : i < m) (hk : k < m) (ki : σ 5 i = 2) (kk : σ 5 k = 3) : ∃ b : Int, f_Plain_meet_65_4 (i : Int) (k : Int) σ = some (b, σ) ∧ f_M_haveByte_84 (i : Int) (k : Int) τ = some (b, τ) := by
  have hm := hG.le
  have i20 : i < 20 := by omega
  have k20 : k < 20 := by omega
  have g : (0 : Int) ≤ (i : Int) ∧ (i : Int) < 20 := by omega
  have gk : (0 : Int) ≤ (k : Int) ∧ (k : Int) < 20 := by omega
  obtain ⟨z1, z2⟩ := hG.sz hi (by omega)
  obtain ⟨y1, y2⟩ := hG.sz hk (by omega)
  obtain ⟨p1, p2, p3⟩ := h.2.2 i hi (by omega)
  obtain ⟨r1, r2, r3⟩ := h.2.2 k hk (by omega)
  obtain ⟨sl, hsl⟩ : ∃ s : Nat, σ 7 i = (s : Int) := ⟨(σ 7 i).toNat, by omega⟩
  obtain ⟨ss, hss⟩ : ∃ s : Nat, σ 7 k = (s : Int) := ⟨(σ 7 k).toNat, by omega⟩
  have sl4 : sl ≤ 4 := by omega
  have sl1 : 1 ≤ sl := by omega
  have ss1 : 1 ≤ ss := by omega
  obtain ⟨b, q1, q2⟩ := hv_lp (τ := τ) (i := i) (k := k) (sl := sl) (ss := ss) (pl := σ 70 i) (ps := σ 70 k) i20 k20 (z1.trans hsl) (y1.trans hss) sl4 p1.symm r1.symm ⟨p2, p3⟩ ⟨r2, r3⟩ sl 0 4096 (by omega) (by omega)
  have q1 : f_M_haveByte_84 (i : Int) (k : Int) τ = some (b, τ) := q1
  refine ⟨b, ?_, q1⟩
  have eX : f_Plain_meet_65_4 (i : Int) (k : Int) σ = (if (σ 70 i - σ 70 k) % 64 < (ss : Int) then some (1, σ) else (if (σ 70 k - σ 70 i) % 64 < (sl : Int) then some (1, σ) else some (0, σ))) := by
    unfold f_Plain_meet_65_4
    simp only [if_pos g, if_pos gk, Int.toNat_natCast, x_cov, Option.bind_some, hsl, hss]
    by_cases w : (σ 70 i - σ 70 k) % 64 < (ss : Int)
    · rw [if_pos w, if_neg (show ¬ (1 : Int) = 0 by decide), if_pos w]
    · rw [if_neg w, if_pos rfl, if_neg w]
      by_cases w2 : (σ 70 k - σ 70 i) % 64 < (sl : Int)
      · rw [if_pos w2, if_neg (show ¬ (1 : Int) = 0 by decide), if_pos w2]
      · rw [if_neg w2, if_pos rfl, if_neg w2]
  rw [eX]
  clear eX q1
  generalize σ 70 i = pl at *
  generalize σ 70 k = ps at *
  rcases q2 with ⟨w1, x, x1, x2, x3⟩ | ⟨w1, w2⟩
  · rw [w1]
    by_cases w : (pl - ps) % 64 < (ss : Int)
    · rw [if_pos w]
    · rw [if_neg w, if_pos (by omega)]
  · rw [w1]
    have n1 : ¬ (pl - ps) % 64 < (ss : Int) := fun w => w2 ⟨0, Nat.le_refl _, by omega, by
      have e : pl + ((0 : Nat) : Int) - ps = pl - ps := by omega
      rw [e]
      exact w⟩
    have n2 : ¬ (ps - pl) % 64 < (sl : Int) := fun w => w2 ⟨((ps - pl) % 64).toNat, Nat.zero_le _, by omega, by omega⟩
    rw [if_neg n1, if_neg n2]
theorem mx_in (hG : PG m rec σ τ) (h : PLr m σ τ) {K1 K2 : Int → Int → pS → Option (Int × pS)} {i : Nat} (hi : i < m) : ∀ (d k fu1 fu2 c : Nat), k + d = i → d < fu1 → d < fu2 → c + d ≤ 1000 → ∃ c' : Nat, c' ≤ c + d ∧ f_Plain_sharedBytes_65_4_p15 K1 fu1 (c : Int) (i : Int) (k : Int) σ = K1 (c' : Int) ((i + 1 : Nat) : Int) σ ∧ f_M_mix_84_p18 K2 fu2 (c : Int) (i : Int) (k : Int) τ = K2 (c' : Int) ((i + 1 : Nat) : Int) τ
  | 0, k, fu1, fu2, c, hk, h1, h2, hc => by
    obtain ⟨n1, rfl⟩ : ∃ n, fu1 = n + 1 := ⟨fu1 - 1, by omega⟩
    obtain ⟨n2, rfl⟩ : ∃ n, fu2 = n + 1 := ⟨fu2 - 1, by omega⟩
    have hm := hG.le
    have i20 : i < 20 := by omega
    refine ⟨c, by omega, ?_, ?_⟩
    · show (if (i : Int) ≤ (k : Int) then _ else _) = _
      rw [if_pos (by omega), pw_s i20 (by decide)]
    · show (if (i : Int) ≤ (k : Int) then _ else _) = _
      rw [if_pos (by omega), pw_s i20 (by decide)]
  | d + 1, k, fu1, fu2, c, hk, h1, h2, hc => by
    obtain ⟨n1, rfl⟩ : ∃ n, fu1 = n + 1 := ⟨fu1 - 1, by omega⟩
    obtain ⟨n2, rfl⟩ : ∃ n, fu2 = n + 1 := ⟨fu2 - 1, by omega⟩
    have hm := hG.le
    have i20 : i < 20 := by omega
    have k20 : k < 20 := by omega
    have c1k : c < 1000 := by omega
    have g : (0 : Int) ≤ (i : Int) ∧ (i : Int) < 20 := by omega
    have gk : (0 : Int) ≤ (k : Int) ∧ (k : Int) < 20 := by omega
    have nk : ¬ (i : Int) ≤ (k : Int) := by omega
    have kd := (hG.kd hi).1
    have kdk := (hG.kd (show k < m by omega)).1
    obtain ⟨ca, a0, a1, a2⟩ := mx_in hG h (K1 := K1) (K2 := K2) hi d (k + 1) n1 n2 c (by omega) (by omega) (by omega) (by omega)
    obtain ⟨cb, b0, b1, b2⟩ := mx_in hG h (K1 := K1) (K2 := K2) hi d (k + 1) n1 n2 (c + 1) (by omega) (by omega) (by omega) (by omega)
    have eX : f_Plain_sharedBytes_65_4_p15 K1 (n1 + 1) (c : Int) (i : Int) (k : Int) σ = (if σ 5 i = 2 then (if σ 5 k = 3 then ((f_Plain_meet_65_4 (i : Int) (k : Int) σ).bind fun q7 => (if q7.1 = 0 then f_Plain_sharedBytes_65_4_p15 K1 n1 (c : Int) (i : Int) ((k + 1 : Nat) : Int) q7.2 else f_Plain_sharedBytes_65_4_p15 K1 n1 ((c + 1 : Nat) : Int) (i : Int) ((k + 1 : Nat) : Int) q7.2)) else f_Plain_sharedBytes_65_4_p15 K1 n1 (c : Int) (i : Int) ((k + 1 : Nat) : Int) σ) else f_Plain_sharedBytes_65_4_p15 K1 n1 (c : Int) (i : Int) ((k + 1 : Nat) : Int) σ) := by
      show (if (i : Int) ≤ (k : Int) then _ else _) = _
      rw [if_neg nk, if_pos g, if_pos gk, Int.toNat_natCast, Int.toNat_natCast, pw_s k20 (by decide), pw_s c1k (by decide)]
    have eM : f_M_mix_84_p18 K2 (n2 + 1) (c : Int) (i : Int) (k : Int) τ = (if σ 5 i = 2 then (if σ 5 k = 3 then ((f_M_haveByte_84 (i : Int) (k : Int) τ).bind fun q8 => (if q8.1 = 0 then f_M_mix_84_p18 K2 n2 (c : Int) (i : Int) ((k + 1 : Nat) : Int) q8.2 else f_M_mix_84_p18 K2 n2 ((c + 1 : Nat) : Int) (i : Int) ((k + 1 : Nat) : Int) q8.2)) else f_M_mix_84_p18 K2 n2 (c : Int) (i : Int) ((k + 1 : Nat) : Int) τ) else f_M_mix_84_p18 K2 n2 (c : Int) (i : Int) ((k + 1 : Nat) : Int) τ) := by
      show (if (i : Int) ≤ (k : Int) then _ else _) = _
      rw [if_neg nk, if_pos g, if_pos gk, Int.toNat_natCast, Int.toNat_natCast, pw_s k20 (by decide), pw_s c1k (by decide), kd, kdk]
    rw [eX, eM]
    by_cases z1 : σ 5 i = 2
    · rw [if_pos z1, if_pos z1]
      by_cases z2 : σ 5 k = 3
      · obtain ⟨b, m1, m2⟩ := meet_ls hG h hi (show k < m by omega) z1 z2
        rw [if_pos z2, if_pos z2, m1, m2, Option.bind_some, Option.bind_some]
        dsimp only
        by_cases z3 : b = 0
        · rw [if_pos z3, if_pos z3]
          exact ⟨ca, by omega, a1, a2⟩
        · rw [if_neg z3, if_neg z3]
          exact ⟨cb, by omega, b1, b2⟩
      · rw [if_neg z2, if_neg z2]
        exact ⟨ca, by omega, a1, a2⟩
    · rw [if_neg z1, if_neg z1]
      exact ⟨ca, by omega, a1, a2⟩
theorem mx_lp (hG : PG m rec σ τ) (h : PLr m σ τ) : ∀ (d i fu1 fu2 c : Nat), i + d = m → d < fu1 → d < fu2 → c ≤ 20 * i → ∃ v, f_Plain_sharedBytes_65_4_p4 fu1 (c : Int) (i : Int) σ = some (v, σ) ∧ f_M_mix_84_p8 fu2 (c : Int) (i : Int) τ = some (v, τ)
  | 0, i, fu1, fu2, c, hi, h1, h2, hc => by
    obtain ⟨n1, rfl⟩ : ∃ n, fu1 = n + 1 := ⟨fu1 - 1, by omega⟩
    obtain ⟨n2, rfl⟩ : ∃ n, fu2 = n + 1 := ⟨fu2 - 1, by omega⟩
    have e1 := hG.cm
    have e2 := hG.mm
    refine ⟨(c : Int), ?_, ?_⟩
    · show (if σ 4 11 ≤ (i : Int) then _ else _) = _
      rw [if_pos (by omega)]
    · show (if τ 84 2 ≤ (i : Int) then _ else _) = _
      rw [if_pos (by omega)]
  | d + 1, i, fu1, fu2, c, hi, h1, h2, hc => by
    obtain ⟨n1, rfl⟩ : ∃ n, fu1 = n + 1 := ⟨fu1 - 1, by omega⟩
    obtain ⟨n2, rfl⟩ : ∃ n, fu2 = n + 1 := ⟨fu2 - 1, by omega⟩
    have hm := hG.le
    have e1 := hG.cm
    have e2 := hG.mm
    have nX : ¬ σ 4 11 ≤ (i : Int) := by omega
    have nM : ¬ τ 84 2 ≤ (i : Int) := by omega
    obtain ⟨c', a0, a1, a2⟩ := mx_in hG h (K1 := f_Plain_sharedBytes_65_4_p4 n1) (K2 := f_M_mix_84_p8 n2) (show i < m by omega) i 0 4096 4096 c (by omega) (by omega) (by omega) (by omega)
    have a1 : f_Plain_sharedBytes_65_4_p15 (f_Plain_sharedBytes_65_4_p4 n1) 4096 (c : Int) (i : Int) 0 σ = f_Plain_sharedBytes_65_4_p4 n1 (c' : Int) ((i + 1 : Nat) : Int) σ := a1
    have a2 : f_M_mix_84_p18 (f_M_mix_84_p8 n2) 4096 (c : Int) (i : Int) 0 τ = f_M_mix_84_p8 n2 (c' : Int) ((i + 1 : Nat) : Int) τ := a2
    obtain ⟨v, q1, q2⟩ := mx_lp hG h d (i + 1) n1 n2 c' (by omega) (by omega) (by omega) (by omega)
    refine ⟨v, ?_, ?_⟩
    · show (if σ 4 11 ≤ (i : Int) then _ else _) = _
      rw [if_neg nX, a1]
      exact q1
    · show (if τ 84 2 ≤ (i : Int) then _ else _) = _
      rw [if_neg nM, a2]
      exact q2
theorem w_mix (h : WR N σ τ) : ∃ v σ' τ', f_X_mix_0 σ = some (v, σ') ∧ f_M_mix_84 τ = some (v, τ') ∧ WS N σ τ σ' τ' := by
  obtain ⟨m, rec, hG⟩ := h.2.1.pg
  have hm := hG.le
  obtain ⟨σ1, τ1, q1, q2, q3, q4, q5⟩ := gpl_ls hG h.2.2.2.1
  have hG1 : PG m rec σ1 τ1 := hG.q (q3.eq (fun k x z => by unfold Ppl at z; unfold wcP; omega)) (q4.eq (fun k x z => by unfold Qpl at z; unfold wmP; omega))
  obtain ⟨v, p1, p2⟩ := mx_lp hG1 q5 m 0 4096 4096 0 (by omega) (by omega) (by omega) (by omega)
  have p1 : f_Plain_sharedBytes_65_4 σ1 = some (v, σ1) := p1
  have p2 : f_M_mix_84_p8 4096 0 0 τ1 = some (v, τ1) := p2
  unfold f_X_mix_0 f_M_mix_84
  rw [q1, q2, Option.bind_some, Option.bind_some]
  dsimp only
  rw [p1, p2, Option.bind_some]
  exact ⟨v, σ1, τ1, rfl, rfl, WS.of q3 q4 (fun k x z => by unfold Ppl at z; omega) (fun k x z => by unfold Qpl at z; omega) (h.q (q3.eq Ppl_A) (q4.eq Qpl_A))⟩
end HB
