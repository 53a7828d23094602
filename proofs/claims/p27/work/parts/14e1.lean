def tpk (u : Int) : Int := if u = -1 then 1 else u
def CDs (c : Cd) (σ τ : pS) : Prop := ∀ (i : Nat) (q : Int × Int), c[i]? = some q → σ 20 i = q.1 ∧ σ 21 i = q.2 ∧ τ 103 i = 1048576 * mop q.1 + q.2 ∧ 0 ≤ q.2 ∧ q.2 < 1048576
def FCs (σ τ : pS) : Prop := ∀ j, j < 7 → σ 22 j = τ 109 j
def SKs (u : Int) (σ τ : pS) : Prop := (∀ x : Nat, (x : Int) < tpk u → σ 23 x = τ 108 x) ∧ (u = -1 → σ 23 0 = 0 ∨ σ 23 0 = 1)
def P23 (k _x : Nat) : Prop := k = 23
def Q108 (k _x : Nat) : Prop := k = 108
def RG (F G : Option (Int × pS)) (σ τ : pS) (u : Int) : Prop := ∃ v σ' τ', F = some (v, σ') ∧ G = some (v, τ') ∧ FR P23 σ σ' ∧ FR Q108 τ τ' ∧ (u = -1 → v = 0 ∨ v = 1)
theorem RG.mv {F G : Option (Int × pS)} {σ τ σ1 τ1 : pS} {u : Int} (h : RG F G σ1 τ1 u) (h1 : FR P23 σ σ1) (h2 : FR Q108 τ τ1) : RG F G σ τ u := by
  obtain ⟨v, σ', τ', a, b, c, d, e⟩ := h
  exact ⟨v, σ', τ', a, b, h1.tr c, h2.tr d, e⟩
theorem CDs.mv {c : Cd} {σ τ σ1 τ1 : pS} (h : CDs c σ τ) (h1 : FR P23 σ σ1) (h2 : FR Q108 τ τ1) : CDs c σ1 τ1 := fun i q hq => by
  rw [h1.get (k := 20) (by unfold P23; omega), h1.get (k := 21) (by unfold P23; omega), h2.get (k := 103) (by unfold Q108; omega)]
  exact h i q hq
theorem FCs.mv {σ τ σ1 τ1 : pS} (h : FCs σ τ) (h1 : FR P23 σ σ1) (h2 : FR Q108 τ τ1) : FCs σ1 τ1 := fun j hj => by
  rw [h1.get (k := 22) (by unfold P23; omega), h2.get (k := 109) (by unfold Q108; omega)]
  exact h j hj
theorem rk_sk {b : Nat} (hb : b ≤ 240) {t : Int} {v : Nat} (hv : v ≤ b) {σ : pS} : ∀ (e k n : Nat), k + e = v → f_Law_reckon_16_p8 (n + e) (b : Int) t (v : Int) (k : Int) σ = f_Law_reckon_16_p8 n (b : Int) t (v : Int) (v : Int) σ
  | 0, k, n, h => by
    have : k = v := by omega
    rw [this, Nat.add_zero]
  | e + 1, k, n, h => by
    refine Eq.trans ?_ (rk_sk hb hv (t := t) (σ := σ) e (k + 1) n (by omega))
    show (if (b : Int) ≤ (k : Int) then _ else _) = _
    rw [if_neg (by omega), if_neg (by omega), if_neg (by omega), pw_s (show k < 240 by omega) (by decide)]
    rfl
/-- two of the stack put together, the same in both -/
theorem jr_1 {s x y : Int} (hs : s = 43 ∨ s = 45 ∨ s = 42 ∨ ((s = 47 ∨ s = 37) ∧ y ≠ 0)) (σ τ : pS) : ∃ z, f_Law_joined s x y σ = some (z, σ) ∧ f_M_reckon (mop s) x y τ = some (z, τ) := by
  rcases hs with rfl | rfl | rfl | ⟨rfl | rfl, hy⟩
  · exact ⟨pw (x + y), rfl, rfl⟩
  · exact ⟨pw (x - y), rfl, rfl⟩
  · exact ⟨pw (x * y), rfl, rfl⟩
  · refine ⟨pDiv x y, ?_, ?_⟩
    · show (if y = 0 then _ else if y ≠ 0 then _ else _) = _
      rw [if_neg hy, if_pos hy]
    · show (if y ≠ 0 then _ else _) = _
      rw [if_pos hy]
  · refine ⟨pRem x y, ?_, ?_⟩
    · show (if y = 0 then _ else if y ≠ 0 then _ else _) = _
      rw [if_neg hy, if_pos hy]
    · show (if y ≠ 0 then _ else _) = _
      rw [if_pos hy]
theorem jr_2 {s x y : Int} (hs : s = 60 ∨ s = 62 ∨ s = 61) (σ τ : pS) : ∃ z, f_Law_joined s x y σ = some (z, σ) ∧ f_M_reckon (mop s) x y τ = some (z, τ) ∧ (z = 0 ∨ z = 1) := by
  rcases hs with rfl | rfl | rfl
  · by_cases h : y ≤ x
    · exact ⟨0, if_pos h, if_pos h, Or.inl rfl⟩
    · exact ⟨1, if_neg h, if_neg h, Or.inr rfl⟩
  · by_cases h : x ≤ y
    · exact ⟨0, if_pos h, if_pos h, Or.inl rfl⟩
    · exact ⟨1, if_neg h, if_neg h, Or.inr rfl⟩
  · by_cases h : x = y
    · exact ⟨1, if_pos h, if_pos h, Or.inr rfl⟩
    · exact ⟨0, if_neg h, if_neg h, Or.inl rfl⟩
theorem c_234 {F : Int → Int → Int → Int → pS → Option (Int × pS)} {b nx : Int} {k g : Nat} (hk : k < 240) (hg : g ≤ 40) {s z : Int} {σ : pS} (hz : f_Law_joined s (σ 23 g) (σ 23 (g + 1)) σ = some (z, σ)) : f_Law_reckon_16_p234 F b ((g + 2 : Nat) : Int) nx (k : Int) s σ = F b ((g + 1 : Nat) : Int) nx ((k + 1 : Nat) : Int) (pU σ 23 g z) := by
  unfold f_Law_reckon_16_p234
  have e1 : pw (((g + 2 : Nat) : Int) + -1) = ((g + 1 : Nat) : Int) := by rw [pw_id (by omega) (by omega)]; omega
  have e2 : pw (((g + 1 : Nat) : Int) - 1) = (g : Int) := by rw [pw_id (by omega) (by omega)]; omega
  rw [e1, e2, if_pos (by omega), if_pos (by omega), Int.toNat_natCast, Int.toNat_natCast, hz, Option.bind_some, if_pos (by omega), pw_s hk (by decide)]
theorem m_203 {F : Int → Int → Int → Int → pS → Option (Int × pS)} {b a4 a5 : Int} {g : Nat} (hg : g ≤ 40) {s z : Int} {τ : pS} (hz : f_M_reckon s (τ 108 g) (τ 108 (g + 1)) τ = some (z, τ)) : f_M_reckonsTo_84_p203 F b ((g + 1 : Nat) : Int) a4 a5 s τ = F b ((g + 1 : Nat) : Int) a4 a5 (pU τ 108 g z) := by
  unfold f_M_reckonsTo_84_p203
  have e2 : pw (((g + 1 : Nat) : Int) - 1) = (g : Int) := by rw [pw_id (by omega) (by omega)]; omega
  rw [e2, if_pos (by omega), if_pos (by omega), Int.toNat_natCast, Int.toNat_natCast, hz, Option.bind_some, if_pos (by omega)]
theorem tpk_n {u : Int} {h : Nat} (e : u = (h : Int)) : tpk u = (h : Int) := by
  unfold tpk
  rw [if_neg (by omega), e]
theorem tpk_b {u : Int} (e : u = -1) : tpk u = ((1 : Nat) : Int) := by
  unfold tpk
  rw [if_pos e]
  rfl
theorem rk_lp {c : Cd} {K : Nat → Int} {a b : Nat} (hc : c.length ≤ 240) (hb : b ≤ c.length) (hW : WT c K a b) (hKb : K b = -1 ∨ K b = 1) : ∀ (d k fu1 fu2 : Nat) (nx : Int) (σ τ : pS), k + d = b → a ≤ k → d < fu1 → d < fu2 → nx ≤ (k : Int) → CDs c σ τ → FCs σ τ → SKs (K k) σ τ → RG (f_Law_reckon_16_p8 fu1 (b : Int) (tpk (K k)) nx (k : Int) σ) (f_M_reckonsTo_84_p16 fu2 (b : Int) (tpk (K k)) 0 (k : Int) τ) σ τ (K b) := by
  intro d
  induction d using Nat.strongRecOn with
  | _ d ih =>
  intro k fu1 fu2 nx σ τ hk ha h1 h2 hnx hC hF hS
  obtain ⟨n1, rfl⟩ : ∃ n, fu1 = n + 1 := ⟨fu1 - 1, by omega⟩
  obtain ⟨n2, rfl⟩ : ∃ n, fu2 = n + 1 := ⟨fu2 - 1, by omega⟩
  by_cases hd0 : d = 0
  · have hkb : k = b := by omega
    subst hkb
    have ht : tpk (K k) = ((1 : Nat) : Int) := by
      rcases hKb with e | e
      · exact tpk_b e
      · exact tpk_n e
    refine ⟨σ 23 0, σ, τ, ?_, ?_, FR.rf _ _, FR.rf _ _, hS.2⟩
    · show (if (k : Int) ≤ (k : Int) then _ else _) = _
      rw [if_pos (Int.le_refl _), ht]
      rfl
    · show (if (k : Int) ≤ (k : Int) then _ else _) = _
      rw [if_pos (Int.le_refl _), hS.1 0 (by rw [ht]; decide)]
  obtain ⟨s, v, hcs, ho⟩ := hW k ha (by omega)
  have k240 : k < 240 := by omega
  have g : (0 : Int) ≤ (k : Int) ∧ (k : Int) < 240 := by omega
  have g2 : (0 : Int) ≤ (k : Int) ∧ (k : Int) < 260 := by omega
  have eK : pw ((k : Int) + 1) = ((k + 1 : Nat) : Int) := pw_s k240 (by decide)
  have nx1 : nx ≤ ((k + 1 : Nat) : Int) := by omega
  have nb : ¬ (b : Int) ≤ (k : Int) := by omega
  have n240 : ¬ (240 : Int) ≤ (k : Int) := by omega
  have e20 : σ 20 k = s := (hC k (s, v) hcs).1
  have e21 : σ 21 k = v := (hC k (s, v) hcs).2.1
  -- one number more
  have push : ∀ (h : Nat) (x : Int), K k = (h : Int) → h ≤ 30 → K (k + 1) = K k + 1 → RG (f_Law_reckon_16_p8 n1 (b : Int) ((h + 1 : Nat) : Int) nx ((k + 1 : Nat) : Int) (pU σ 23 h x)) (f_M_reckonsTo_84_p16 n2 (b : Int) ((h + 1 : Nat) : Int) 0 ((k + 1 : Nat) : Int) (pU τ 108 h x)) σ τ (K b) := fun h x hh h30 hK => by
    have f1 : FR P23 σ (pU σ 23 h x) := FR.u rfl
    have f2 : FR Q108 τ (pU τ 108 h x) := FR.u rfl
    have e1 : K (k + 1) = ((h + 1 : Nat) : Int) := by omega
    have r := ih (d - 1) (by omega) (k + 1) n1 n2 nx (pU σ 23 h x) (pU τ 108 h x) (by omega) (by omega) (by omega) (by omega) nx1 (hC.mv f1 f2) (hF.mv f1 f2) ⟨fun y hy => by
      rw [tpk_n e1] at hy
      by_cases hyh : y = h
      · rw [hyh, pU_s, pU_s]
      · rw [pU_i _ _ _ _ hyh, pU_i _ _ _ _ hyh]
        exact hS.1 y (by rw [tpk_n hh]; omega), fun q => by omega⟩
    rw [tpk_n e1] at r
    exact r.mv f1 f2
  -- two put together
  have join : ∀ (h : Nat) (z : Int), K k = ((h + 2 : Nat) : Int) → h ≤ 40 → K (k + 1) = ((h + 1 : Nat) : Int) ∨ (h = 0 ∧ K (k + 1) = -1 ∧ (z = 0 ∨ z = 1)) → RG (f_Law_reckon_16_p8 n1 (b : Int) ((h + 1 : Nat) : Int) nx ((k + 1 : Nat) : Int) (pU σ 23 h z)) (f_M_reckonsTo_84_p16 n2 (b : Int) ((h + 1 : Nat) : Int) 0 ((k + 1 : Nat) : Int) (pU τ 108 h z)) σ τ (K b) := fun h z hh h30 hK => by
    have f1 : FR P23 σ (pU σ 23 h z) := FR.u rfl
    have f2 : FR Q108 τ (pU τ 108 h z) := FR.u rfl
    have e1 : tpk (K (k + 1)) = ((h + 1 : Nat) : Int) := by
      rcases hK with q | ⟨q1, q2, -⟩
      · exact tpk_n q
      · rw [q1]; exact tpk_b q2
    have r := ih (d - 1) (by omega) (k + 1) n1 n2 nx (pU σ 23 h z) (pU τ 108 h z) (by omega) (by omega) (by omega) (by omega) nx1 (hC.mv f1 f2) (hF.mv f1 f2) ⟨fun y hy => by
      rw [e1] at hy
      by_cases hyh : y = h
      · rw [hyh, pU_s, pU_s]
      · rw [pU_i _ _ _ _ hyh, pU_i _ _ _ _ hyh]
        exact hS.1 y (by rw [tpk_n hh]; omega), fun q => by
      rcases hK with q1 | ⟨q1, -, q3⟩
      · omega
      · rw [q1, pU_s]; exact q3⟩
    rw [e1] at r
    exact r.mv f1 f2
  have mE : f_M_reckonsTo_84_p16 (n2 + 1) (b : Int) (tpk (K k)) 0 (k : Int) τ = (if mop s = 0 then (f_M_reckonsTo_84_p63 (f_M_reckonsTo_84_p16 n2) (b : Int) (tpk (K k)) 0 ((k + 1 : Nat) : Int) (mop s) v τ) else (if mop s = 1 then (f_M_reckonsTo_84_p63 (f_M_reckonsTo_84_p16 n2) (b : Int) (tpk (K k)) 0 ((k + 1 : Nat) : Int) (mop s) v τ) else (if mop s = 10 then (if 0 ≤ (pw (tpk (K k) - 1)) ∧ (pw (tpk (K k) - 1)) < 260 then (if 0 ≤ (pw (tpk (K k) - 1)) ∧ (pw (tpk (K k) - 1)) < 260 then (f_M_reckonsTo_84_p16 n2 (b : Int) (tpk (K k)) 0 ((k + 1 : Nat) : Int) (pU τ 108 ((pw (tpk (K k) - 1)).toNat) (pw (1 - (τ 108 (pw (tpk (K k) - 1)).toNat))))) else none) else none) else (if mop s = 11 then (f_M_reckonsTo_84_p135 (f_M_reckonsTo_84_p16 n2) (b : Int) (tpk (K k)) 0 ((k + 1 : Nat) : Int) (mop s) v τ) else (if mop s = 12 then (f_M_reckonsTo_84_p135 (f_M_reckonsTo_84_p16 n2) (b : Int) (tpk (K k)) 0 ((k + 1 : Nat) : Int) (mop s) v τ) else (if mop s = 5 then (f_M_reckonsTo_84_p192 (f_M_reckonsTo_84_p16 n2) (b : Int) (pw (tpk (K k) - 1)) 0 ((k + 1 : Nat) : Int) (mop s) τ) else (if mop s = 6 then (f_M_reckonsTo_84_p192 (f_M_reckonsTo_84_p16 n2) (b : Int) (pw (tpk (K k) - 1)) 0 ((k + 1 : Nat) : Int) (mop s) τ) else (f_M_reckonsTo_84_p203 (f_M_reckonsTo_84_p16 n2) (b : Int) (pw (tpk (K k) - 1)) 0 ((k + 1 : Nat) : Int) (mop s) τ)))))))) := by
    obtain ⟨-, -, e103, v0, v1⟩ := hC k (s, v) hcs
    dsimp only at e103 v0 v1
    have mr := mop_r s
    have mr' : 0 ≤ mop s ∧ mop s ≤ 14 := ⟨mr.1, Int.le_trans mr.2 (by decide)⟩
    have ed : pDiv (τ 103 k) 1048576 = mop s := (congrArg (fun z => pDiv z 1048576) e103).trans (unit_div mr' ⟨v0, v1⟩)
    have er : pRem (τ 103 k) 1048576 = v := (congrArg (fun z => pRem z 1048576) e103).trans (unit_rem mr' ⟨v0, v1⟩)
    show (if (b : Int) ≤ (k : Int) then _ else _) = _
    rw [if_neg nb, if_pos g2, if_pos g2, Int.toNat_natCast, ed, er, eK]
  have cE : f_Law_reckon_16_p8 (n1 + 1) (b : Int) (tpk (K k)) nx (k : Int) σ = (if s = 48 then (f_Law_reckon_16_p55 (f_Law_reckon_16_p8 n1) (b : Int) (tpk (K k)) nx (k : Int) s σ) else (if s = 97 then (f_Law_reckon_16_p55 (f_Law_reckon_16_p8 n1) (b : Int) (tpk (K k)) nx (k : Int) s σ) else (if 1 ≤ tpk (K k) then (if s = 33 then (if 0 ≤ (pw (tpk (K k) - 1)) ∧ (pw (tpk (K k) - 1)) < 64 then (if 0 ≤ (pw (tpk (K k) - 1)) ∧ (pw (tpk (K k) - 1)) < 64 then (f_Law_reckon_16_p8 n1 (b : Int) (tpk (K k)) nx ((k + 1 : Nat) : Int) (pU σ 23 ((pw (tpk (K k) - 1)).toNat) (pw (1 - (σ 23 (pw (tpk (K k) - 1)).toNat))))) else none) else none) else (if s = 38 then (f_Law_reckon_16_p153 (f_Law_reckon_16_p8 n1) (b : Int) (tpk (K k)) nx (k : Int) s σ) else (if s = 124 then (f_Law_reckon_16_p153 (f_Law_reckon_16_p8 n1) (b : Int) (tpk (K k)) nx (k : Int) s σ) else (if tpk (K k) < 2 then (some (0, σ)) else (if 0 ≤ (pw (tpk (K k) - 1)) ∧ (pw (tpk (K k) - 1)) < 64 then (if (σ 23 (pw (tpk (K k) - 1)).toNat) = 0 then (if s = 47 then (some (0, σ)) else (if s = 37 then (some (0, σ)) else (f_Law_reckon_16_p234 (f_Law_reckon_16_p8 n1) (b : Int) (tpk (K k)) nx (k : Int) s σ))) else (f_Law_reckon_16_p234 (f_Law_reckon_16_p8 n1) (b : Int) (tpk (K k)) nx (k : Int) s σ)) else none))))) else (some (0, σ))))) := by
    show (if (b : Int) ≤ (k : Int) then _ else _) = _
    rw [if_neg nb, if_neg n240, if_pos hnx, if_pos g, Int.toNat_natCast, e20, eK]
  rw [cE, mE]
  clear cE mE
  unfold OKc at ho
  rcases ho with ⟨hs, p1, p2, p3⟩ | ⟨hs, p1, p2, p3⟩ | ⟨hs, p1, p3⟩ | ⟨hs, p1, p3⟩ | ⟨hs, p1, p2, p3, p4, p5⟩
  · obtain ⟨h, hh⟩ : ∃ h : Nat, K k = (h : Int) := ⟨(K k).toNat, by omega⟩
    rw [tpk_n hh]
    rcases hs with rfl | ⟨rfl, q1, q2⟩
    · rw [if_pos rfl, if_pos (show mop 48 = 0 from rfl)]
      unfold f_Law_reckon_16_p55 f_M_reckonsTo_84_p63
      rw [if_pos (by omega), if_pos rfl, if_pos g, if_pos (by omega), if_pos (show mop 48 = 0 from rfl), if_pos (by omega), Int.toNat_natCast, Int.toNat_natCast, e21, eK, pw_s (show h < 240 by omega) (by decide)]
      exact push h v hh (by omega) p3
    · rw [if_neg (by decide), if_pos rfl, if_neg (show ¬ mop 97 = 0 by decide), if_pos (show mop 97 = 1 from rfl)]
      unfold f_Law_reckon_16_p55 f_M_reckonsTo_84_p63
      rw [if_pos (by omega), if_neg (by decide), if_pos g, Int.toNat_natCast, Int.toNat_natCast, e21, if_pos ⟨q1, q2⟩, if_pos (by omega), if_neg (show ¬ mop 97 = 0 by decide), if_pos ⟨q1, q2⟩, if_pos (by omega), eK, pw_s (show h < 240 by omega) (by decide), hF v.toNat (by omega)]
      exact push h _ hh (by omega) p3
  · obtain ⟨h, hh⟩ : ∃ h : Nat, K k = ((h + 2 : Nat) : Int) := ⟨(K k - 2).toNat, by omega⟩
    have ew : pw (((h + 2 : Nat) : Int) - 1) = ((h + 1 : Nat) : Int) := by rw [pw_id (by omega) (by omega)]; omega
    have x1 : σ 23 h = τ 108 h := hS.1 h (by rw [tpk_n hh]; omega)
    have y1 : σ 23 (h + 1) = τ 108 (h + 1) := hS.1 (h + 1) (by rw [tpk_n hh]; omega)
    rw [tpk_n hh, ew]
    have n48 : s ≠ 48 ∧ s ≠ 97 ∧ s ≠ 33 ∧ s ≠ 38 ∧ s ≠ 124 := by omega
    rw [if_neg n48.1, if_neg n48.2.1, if_pos (by omega), if_neg n48.2.2.1, if_neg n48.2.2.2.1, if_neg n48.2.2.2.2, if_neg (show ¬ ((h + 2 : Nat) : Int) < 2 by omega), if_pos (by omega), Int.toNat_natCast]
    have nm : mop s ≠ 0 ∧ mop s ≠ 1 ∧ mop s ≠ 10 ∧ mop s ≠ 11 ∧ mop s ≠ 12 := by
      rcases hs with rfl | rfl | rfl | rfl | rfl <;> decide
    rw [if_neg nm.1, if_neg nm.2.1, if_neg nm.2.2.1, if_neg nm.2.2.2.1, if_neg nm.2.2.2.2]
    have good : (s = 43 ∨ s = 45 ∨ s = 42 ∨ ((s = 47 ∨ s = 37) ∧ σ 23 (h + 1) ≠ 0)) → RG (f_Law_reckon_16_p234 (f_Law_reckon_16_p8 n1) (b : Int) ((h + 2 : Nat) : Int) nx (k : Int) s σ) (f_M_reckonsTo_84_p203 (f_M_reckonsTo_84_p16 n2) (b : Int) ((h + 1 : Nat) : Int) 0 ((k + 1 : Nat) : Int) (mop s) τ) σ τ (K b) := fun hq => by
      obtain ⟨z, z1, z2⟩ := jr_1 (x := σ 23 h) hq σ τ
      rw [x1, y1] at z2
      rw [c_234 k240 (by omega) z1, m_203 (by omega) z2]
      exact join h z hh (by omega) (Or.inl (by omega))
    have stop : RG (some (0, σ)) (some (0, τ)) σ τ (K b) := ⟨0, σ, τ, rfl, rfl, FR.rf _ _, FR.rf _ _, fun _ => Or.inl rfl⟩
    by_cases hdv : s = 47 ∨ s = 37
    · have m192 : f_M_reckonsTo_84_p192 (f_M_reckonsTo_84_p16 n2) (b : Int) ((h + 1 : Nat) : Int) 0 ((k + 1 : Nat) : Int) (mop s) τ = (if τ 108 (h + 1) = 0 then some (0, τ) else f_M_reckonsTo_84_p203 (f_M_reckonsTo_84_p16 n2) (b : Int) ((h + 1 : Nat) : Int) 0 ((k + 1 : Nat) : Int) (mop s) τ) := by
        unfold f_M_reckonsTo_84_p192
        rw [if_pos (by omega), Int.toNat_natCast]
      have mm : (if mop s = 5 then f_M_reckonsTo_84_p192 (f_M_reckonsTo_84_p16 n2) (b : Int) ((h + 1 : Nat) : Int) 0 ((k + 1 : Nat) : Int) (mop s) τ else if mop s = 6 then f_M_reckonsTo_84_p192 (f_M_reckonsTo_84_p16 n2) (b : Int) ((h + 1 : Nat) : Int) 0 ((k + 1 : Nat) : Int) (mop s) τ else f_M_reckonsTo_84_p203 (f_M_reckonsTo_84_p16 n2) (b : Int) ((h + 1 : Nat) : Int) 0 ((k + 1 : Nat) : Int) (mop s) τ) = f_M_reckonsTo_84_p192 (f_M_reckonsTo_84_p16 n2) (b : Int) ((h + 1 : Nat) : Int) 0 ((k + 1 : Nat) : Int) (mop s) τ := by
        rcases hdv with e | e
        · rw [if_pos (by rw [e]; decide)]
        · rw [if_neg (by rw [e]; decide), if_pos (by rw [e]; decide)]
      rw [mm, m192, ← y1]
      by_cases hy : σ 23 (h + 1) = 0
      · rw [if_pos hy, if_pos hy]
        rcases hdv with e | e
        · rw [if_pos e]; exact stop
        · rw [if_neg (by omega), if_pos e]; exact stop
      · rw [if_neg hy, if_neg hy]
        exact good (by omega)
    · have n5 : mop s ≠ 5 ∧ mop s ≠ 6 := by
        rcases hs with rfl | rfl | rfl | rfl | rfl
        · decide
        · decide
        · decide
        · omega
        · omega
      rw [if_neg n5.1, if_neg n5.2, if_neg (show ¬ s = 47 by omega), if_neg (show ¬ s = 37 by omega)]
      have hq := good (by omega)
      by_cases hy : σ 23 (h + 1) = 0
      · rw [if_pos hy]; exact hq
      · rw [if_neg hy]; exact hq
  · have hh : K k = ((0 + 2 : Nat) : Int) := p1
    have ew : pw (((0 + 2 : Nat) : Int) - 1) = ((0 + 1 : Nat) : Int) := by rw [pw_id (by omega) (by omega)]; omega
    have x1 : σ 23 0 = τ 108 0 := hS.1 0 (by rw [tpk_n hh]; omega)
    have y1 : σ 23 (0 + 1) = τ 108 (0 + 1) := hS.1 (0 + 1) (by rw [tpk_n hh]; omega)
    rw [tpk_n hh, ew]
    have n48 : s ≠ 48 ∧ s ≠ 97 ∧ s ≠ 33 ∧ s ≠ 38 ∧ s ≠ 124 ∧ s ≠ 47 ∧ s ≠ 37 := by omega
    rw [if_neg n48.1, if_neg n48.2.1, if_pos (by omega), if_neg n48.2.2.1, if_neg n48.2.2.2.1, if_neg n48.2.2.2.2.1, if_neg (show ¬ ((0 + 2 : Nat) : Int) < 2 by omega), if_pos (by omega), Int.toNat_natCast, if_neg n48.2.2.2.2.2.1, if_neg n48.2.2.2.2.2.2]
    have nm : mop s ≠ 0 ∧ mop s ≠ 1 ∧ mop s ≠ 10 ∧ mop s ≠ 11 ∧ mop s ≠ 12 ∧ mop s ≠ 5 ∧ mop s ≠ 6 := by
      rcases hs with rfl | rfl | rfl <;> decide
    rw [if_neg nm.1, if_neg nm.2.1, if_neg nm.2.2.1, if_neg nm.2.2.2.1, if_neg nm.2.2.2.2.1, if_neg nm.2.2.2.2.2.1, if_neg nm.2.2.2.2.2.2]
    obtain ⟨z, z1, z2, z3⟩ := jr_2 (x := σ 23 0) (y := σ 23 (0 + 1)) hs σ τ
    rw [x1, y1] at z2
    have hq := join 0 z hh (by omega) (Or.inr ⟨rfl, p3, z3⟩)
    have e1 := c_234 (F := f_Law_reckon_16_p8 n1) (b := (b : Int)) (nx := nx) (g := 0) k240 (by omega) z1
    rw [m_203 (by omega) z2, e1]
    by_cases hy : σ 23 (0 + 1) = 0
    · rw [if_pos hy]; exact hq
    · rw [if_neg hy]; exact hq
  · subst hs
    have x1 : σ 23 0 = τ 108 0 := hS.1 0 (by rw [tpk_b p1]; decide)
    have x2 := hS.2 p1
    have ew : pw (((1 : Nat) : Int) - 1) = ((0 : Nat) : Int) := by decide
    rw [tpk_b p1, ew, if_neg (by decide), if_neg (by decide), if_pos (by decide), if_pos rfl, if_pos (by decide), if_pos (by decide), if_neg (show ¬ mop 33 = 0 by decide), if_neg (show ¬ mop 33 = 1 by decide), if_pos (show mop 33 = 10 from rfl), if_pos (by decide), if_pos (by decide), Int.toNat_natCast, ← x1]
    have f1 : FR P23 σ (pU σ 23 0 (pw (1 - σ 23 0))) := FR.u rfl
    have f2 : FR Q108 τ (pU τ 108 0 (pw (1 - σ 23 0))) := FR.u rfl
    have hz : pw (1 - σ 23 0) = 0 ∨ pw (1 - σ 23 0) = 1 := by
      rcases x2 with e | e
      · rw [e]; exact Or.inr (by decide)
      · rw [e]; exact Or.inl (by decide)
    have r := ih (d - 1) (by omega) (k + 1) n1 n2 nx _ _ (by omega) (by omega) (by omega) (by omega) nx1 (hC.mv f1 f2) (hF.mv f1 f2) ⟨fun y hy => by
      rw [tpk_b p3] at hy
      have : y = 0 := by omega
      rw [this, pU_s, pU_s], fun _ => by rw [pU_s]; exact hz⟩
    rw [tpk_b p3] at r
    exact r.mv f1 f2
  · have x1 : σ 23 0 = τ 108 0 := hS.1 0 (by rw [tpk_b p1]; decide)
    have x2 := hS.2 p1
    have ew : pw (((1 : Nat) : Int) - 1) = ((0 : Nat) : Int) := by decide
    have ew2 : pw (((1 : Nat) : Int) + -1) = ((0 : Nat) : Int) := by decide
    obtain ⟨vn, rfl⟩ : ∃ w : Nat, v = (w : Int) := ⟨v.toNat, by omega⟩
    rw [Int.toNat_natCast] at p5
    -- stays, the stack empty
    have fall : RG (f_Law_reckon_16_p8 n1 (b : Int) ((0 : Nat) : Int) nx ((k + 1 : Nat) : Int) σ) (f_M_reckonsTo_84_p16 n2 (b : Int) ((0 : Nat) : Int) 0 ((k + 1 : Nat) : Int) τ) σ τ (K b) := by
      have r := ih (d - 1) (by omega) (k + 1) n1 n2 nx σ τ (by omega) (by omega) (by omega) (by omega) nx1 hC hF ⟨fun y hy => by rw [tpk_n (h := 0) p2] at hy; omega, fun q => by omega⟩
      rw [tpk_n (h := 0) p2] at r
      exact r
    have jump : RG (f_Law_reckon_16_p8 n1 (b : Int) ((1 : Nat) : Int) (vn : Int) ((k + 1 : Nat) : Int) σ) (f_M_reckonsTo_84_p16 n2 (b : Int) ((1 : Nat) : Int) 0 (vn : Int) τ) σ τ (K b) := by
      have r := ih (b - vn) (by omega) vn (n1 - (vn - (k + 1))) n2 (vn : Int) σ τ (by omega) (by omega) (by omega) (by omega) (Int.le_refl _) hC hF ⟨fun y hy => by
        rw [tpk_b p5] at hy
        have : y = 0 := by omega
        rw [this]; exact x1, fun _ => x2⟩
      rw [tpk_b p5] at r
      have e := rk_sk (b := b) (by omega) (t := ((1 : Nat) : Int)) (v := vn) (by omega) (σ := σ) (vn - (k + 1)) (k + 1) (n1 - (vn - (k + 1))) (by omega)
      rw [show n1 - (vn - (k + 1)) + (vn - (k + 1)) = n1 by omega] at e
      rw [e]
      exact r
    have pk : pw (0 + (vn : Int)) = (vn : Int) := by rw [pw_id (by omega) (by omega)]; omega
    rw [tpk_b p1, ew]
    rcases hs with rfl | rfl
    · rw [if_neg (by decide), if_neg (by decide), if_pos (by decide), if_neg (by decide), if_pos rfl, if_neg (show ¬ mop 38 = 0 by decide), if_neg (show ¬ mop 38 = 1 by decide), if_neg (show ¬ mop 38 = 10 by decide), if_pos (show mop 38 = 11 from rfl)]
      rcases x2 with e | e
      · have e2 : τ 108 0 = 0 := x1.symm.trans e
        have cX : f_Law_reckon_16_p153 (f_Law_reckon_16_p8 n1) (b : Int) ((1 : Nat) : Int) nx (k : Int) 38 σ = f_Law_reckon_16_p8 n1 (b : Int) ((1 : Nat) : Int) (vn : Int) ((k + 1 : Nat) : Int) σ := by
          unfold f_Law_reckon_16_p153
          rw [ew, if_pos (show (0 : Int) ≤ ((0 : Nat) : Int) ∧ ((0 : Nat) : Int) < 64 by decide), Int.toNat_natCast, if_pos e]
          unfold f_Law_reckon_16_p169
          rw [if_neg (by decide)]
          unfold f_Law_reckon_16_p181
          rw [if_pos rfl, if_pos g, Int.toNat_natCast, e21, eK]
        have mX : f_M_reckonsTo_84_p135 (f_M_reckonsTo_84_p16 n2) (b : Int) ((1 : Nat) : Int) 0 ((k + 1 : Nat) : Int) (mop 38) (vn : Int) τ = f_M_reckonsTo_84_p16 n2 (b : Int) ((1 : Nat) : Int) 0 (vn : Int) τ := by
          unfold f_M_reckonsTo_84_p135
          rw [ew, if_pos (show (0 : Int) ≤ ((0 : Nat) : Int) ∧ ((0 : Nat) : Int) < 260 by decide), if_neg (show ¬ mop 38 = 12 by decide), Int.toNat_natCast]
          unfold f_M_reckonsTo_84_p155
          rw [e2, if_pos rfl, pk]
        rw [cX, mX]
        exact jump
      · have e2 : τ 108 0 = 1 := x1.symm.trans e
        have cX : f_Law_reckon_16_p153 (f_Law_reckon_16_p8 n1) (b : Int) ((1 : Nat) : Int) nx (k : Int) 38 σ = f_Law_reckon_16_p8 n1 (b : Int) ((0 : Nat) : Int) nx ((k + 1 : Nat) : Int) σ := by
          unfold f_Law_reckon_16_p153
          rw [ew, if_pos (show (0 : Int) ≤ ((0 : Nat) : Int) ∧ ((0 : Nat) : Int) < 64 by decide), Int.toNat_natCast, if_neg (show ¬ σ 23 0 = 0 by rw [e]; decide)]
          unfold f_Law_reckon_16_p169
          rw [if_neg (by decide)]
          unfold f_Law_reckon_16_p181
          rw [if_neg (by decide), ew2, eK]
        have mX : f_M_reckonsTo_84_p135 (f_M_reckonsTo_84_p16 n2) (b : Int) ((1 : Nat) : Int) 0 ((k + 1 : Nat) : Int) (mop 38) (vn : Int) τ = f_M_reckonsTo_84_p16 n2 (b : Int) ((0 : Nat) : Int) 0 ((k + 1 : Nat) : Int) τ := by
          unfold f_M_reckonsTo_84_p135
          rw [ew, if_pos (show (0 : Int) ≤ ((0 : Nat) : Int) ∧ ((0 : Nat) : Int) < 260 by decide), if_neg (show ¬ mop 38 = 12 by decide), Int.toNat_natCast]
          unfold f_M_reckonsTo_84_p155
          rw [e2, if_neg (by decide), ew]
        rw [cX, mX]
        exact fall
    · rw [if_neg (by decide), if_neg (by decide), if_pos (by decide), if_neg (by decide), if_neg (by decide), if_pos rfl, if_neg (show ¬ mop 124 = 0 by decide), if_neg (show ¬ mop 124 = 1 by decide), if_neg (show ¬ mop 124 = 10 by decide), if_neg (show ¬ mop 124 = 11 by decide), if_pos (show mop 124 = 12 from rfl)]
      rcases x2 with e | e
      · have e2 : τ 108 0 = 0 := x1.symm.trans e
        have cX : f_Law_reckon_16_p153 (f_Law_reckon_16_p8 n1) (b : Int) ((1 : Nat) : Int) nx (k : Int) 124 σ = f_Law_reckon_16_p8 n1 (b : Int) ((0 : Nat) : Int) nx ((k + 1 : Nat) : Int) σ := by
          unfold f_Law_reckon_16_p153
          rw [ew, if_pos (show (0 : Int) ≤ ((0 : Nat) : Int) ∧ ((0 : Nat) : Int) < 64 by decide), Int.toNat_natCast, if_pos e]
          unfold f_Law_reckon_16_p169
          rw [if_pos rfl]
          unfold f_Law_reckon_16_p181
          rw [if_neg (by decide), ew2, eK]
        have mX : f_M_reckonsTo_84_p135 (f_M_reckonsTo_84_p16 n2) (b : Int) ((1 : Nat) : Int) 0 ((k + 1 : Nat) : Int) (mop 124) (vn : Int) τ = f_M_reckonsTo_84_p16 n2 (b : Int) ((0 : Nat) : Int) 0 ((k + 1 : Nat) : Int) τ := by
          unfold f_M_reckonsTo_84_p135
          rw [ew, if_pos (show (0 : Int) ≤ ((0 : Nat) : Int) ∧ ((0 : Nat) : Int) < 260 by decide), if_pos (show mop 124 = 12 from rfl), Int.toNat_natCast]
          unfold f_M_reckonsTo_84_p155
          rw [e2, if_neg (by decide), ew]
        rw [cX, mX]
        exact fall
      · have e2 : τ 108 0 = 1 := x1.symm.trans e
        have cX : f_Law_reckon_16_p153 (f_Law_reckon_16_p8 n1) (b : Int) ((1 : Nat) : Int) nx (k : Int) 124 σ = f_Law_reckon_16_p8 n1 (b : Int) ((1 : Nat) : Int) (vn : Int) ((k + 1 : Nat) : Int) σ := by
          unfold f_Law_reckon_16_p153
          rw [ew, if_pos (show (0 : Int) ≤ ((0 : Nat) : Int) ∧ ((0 : Nat) : Int) < 64 by decide), Int.toNat_natCast, if_neg (show ¬ σ 23 0 = 0 by rw [e]; decide)]
          unfold f_Law_reckon_16_p169
          rw [if_pos rfl]
          unfold f_Law_reckon_16_p181
          rw [if_pos rfl, if_pos g, Int.toNat_natCast, e21, eK]
        have mX : f_M_reckonsTo_84_p135 (f_M_reckonsTo_84_p16 n2) (b : Int) ((1 : Nat) : Int) 0 ((k + 1 : Nat) : Int) (mop 124) (vn : Int) τ = f_M_reckonsTo_84_p16 n2 (b : Int) ((1 : Nat) : Int) 0 (vn : Int) τ := by
          unfold f_M_reckonsTo_84_p135
          rw [ew, if_pos (show (0 : Int) ≤ ((0 : Nat) : Int) ∧ ((0 : Nat) : Int) < 260 by decide), if_pos (show mop 124 = 12 from rfl), Int.toNat_natCast]
          unfold f_M_reckonsTo_84_p155
          rw [e2, if_pos rfl, pk]
        rw [cX, mX]
        exact jump
/-- codes come to the same in both -/
theorem rk_ls {c : Cd} {K : Nat → Int} {a b : Nat} (hc : c.length ≤ 240) (hb : b ≤ c.length) (hab : a ≤ b) (hW : WT c K a b) (h0 : K a = 0) (hKb : K b = -1 ∨ K b = 1) {σ τ : pS} (hC : CDs c σ τ) (hF : FCs σ τ) : RG (f_Law_reckon_16 (a : Int) (b : Int) σ) (f_M_reckonsTo_84 (a : Int) (b : Int) τ) σ τ (K b) := by
  have r := rk_lp hc hb hW hKb (b - a) a 4096 4096 (a : Int) σ τ (by omega) (Nat.le_refl _) (by omega) (by omega) (Int.le_refl _) hC hF ⟨fun y hy => by rw [tpk_n (h := 0) h0] at hy; omega, fun q => by omega⟩
  rw [tpk_n (h := 0) h0] at r
  have e : pw (260 * (pDiv (a : Int) 260)) = 0 := by
    rw [pDiv_eq (by omega) (by omega) (by decide) (by decide), Int.tdiv_eq_ediv_of_nonneg (by omega), show (a : Int) / 260 = 0 by omega]
    decide
  unfold f_M_reckonsTo_84
  rw [e]
  exact r
/-- the two laws, alike and in order -/
def LW (m : Nat) (c : Cd) (R : Nat → Ru) (σ τ : pS) : Prop := m ≤ 16 ∧ c.length ≤ 240 ∧ σ 16 7 = (m : Int) ∧ τ 84 27 = (m : Int) ∧ CDs c σ τ ∧ ∀ j, j < m → (σ 17 j = (R j).1 ∧ σ 18 j = (R j).2.1 ∧ σ 19 j = (R j).2.2.1 ∧ σ 18 (j + 1) = (R j).2.2.2) ∧ (τ 104 j = (R j).1 ∧ τ 105 j = (R j).2.1 ∧ τ 106 j = (R j).2.2.1 ∧ τ 107 j = (R j).2.2.2) ∧ RW c (R j)
theorem LW.mv {m : Nat} {c : Cd} {R : Nat → Ru} {σ σ' τ τ' : pS} (h : LW m c R σ τ) (h1 : σ' 16 7 = σ 16 7) (h2 : ∀ k x, 17 ≤ k → k ≤ 21 → σ' k x = σ k x) (h3 : τ' 84 27 = τ 84 27) (h4 : ∀ k x, 103 ≤ k → k ≤ 107 → τ' k x = τ k x) : LW m c R σ' τ' := by
  obtain ⟨a1, a2, a3, a4, a5, a6⟩ := h
  refine ⟨a1, a2, h1.trans a3, h3.trans a4, fun i q hq => ?_, fun j hj => ?_⟩
  · rw [h2 20 _ (by decide) (by decide), h2 21 _ (by decide) (by decide), h4 103 _ (by decide) (by decide)]
    exact a5 i q hq
  · rw [h2 17 _ (by decide) (by decide), h2 18 _ (by decide) (by decide), h2 19 _ (by decide) (by decide), h2 18 _ (by decide) (by decide), h4 104 _ (by decide) (by decide), h4 105 _ (by decide) (by decide), h4 106 _ (by decide) (by decide), h4 107 _ (by decide) (by decide)]
    exact a6 j hj
theorem LW.sk {m : Nat} {c : Cd} {R : Nat → Ru} {σ σ' τ τ' : pS} (h : LW m c R σ τ) (h1 : FR P23 σ σ') (h2 : FR Q108 τ τ') : LW m c R σ' τ' := h.mv (h1.get (by unfold P23; omega)) (fun k x _ _ => h1.get (by unfold P23; omega)) (h2.get (by unfold Q108; omega)) (fun k x _ _ => h2.get (by unfold Q108; omega))
/-- a rule's condition -/
theorem hs_ls {m : Nat} {c : Cd} {R : Nat → Ru} {σ τ : pS} (h : LW m c R σ τ) (hF : FCs σ τ) {j : Nat} (hj : j < m) : ∃ b v σ' τ', f_Law_holds_16 (j : Int) σ = some (b, σ') ∧ f_M_reckonsTo_84 (τ 106 j) (τ 107 j) τ = some (v, τ') ∧ ((b = 0 ∧ v ≠ 1) ∨ (b = 1 ∧ v = 1)) ∧ FR P23 σ σ' ∧ FR Q108 τ τ' := by
  have hm := h.1
  have hj16 : j < 16 := by omega
  have g : (0 : Int) ≤ (j : Int) ∧ (j : Int) < 16 := by omega
  have g17 : (0 : Int) ≤ ((j + 1 : Nat) : Int) ∧ ((j + 1 : Nat) : Int) < 17 := by omega
  obtain ⟨a1, a2, a3, a4, a5, a6⟩ := h
  obtain ⟨⟨b1, b2, b3, b4⟩, ⟨c1, c2, c3, c4⟩, x, y, z, e1, e2, e3, l1, l2, l3, -, K, w1, w2, w3⟩ := a6 j hj
  obtain ⟨v, σ', τ', r1, r2, r3, r4, r5⟩ := rk_ls a2 l3 l2 w1 w2 (Or.inl w3) a5 hF
  have eX : f_Law_holds_16 (j : Int) σ = (if v = 0 then some (0, σ') else some (1, σ')) := by
    unfold f_Law_holds_16
    rw [pw_s hj16 (by decide), if_pos g, if_pos g17, Int.toNat_natCast, Int.toNat_natCast, b3, b4, e2, e3, r1, Option.bind_some]
  have eM : f_M_reckonsTo_84 (τ 106 j) (τ 107 j) τ = some (v, τ') := by rw [c3, c4, e2, e3]; exact r2
  rcases r5 w3 with q | q
  · exact ⟨0, v, σ', τ', by rw [eX, if_pos q], eM, Or.inl ⟨rfl, by rw [q]; decide⟩, r3, r4⟩
  · exact ⟨1, v, σ', τ', by rw [eX, if_neg (by rw [q]; decide)], eM, Or.inr ⟨rfl, q⟩, r3, r4⟩
theorem mm_eq (w : Int) (τ' : pS) : (if 1 ≤ w then (if w ≤ 20 then (some (w, τ')) else (some (20, τ'))) else (some (1, τ')) : Option (Int × pS)) = some (pMax 1 (pMin 20 w), τ') := by
  have h : (if 1 ≤ w then (if w ≤ 20 then w else 20) else 1) = pMax 1 (pMin 20 w) := by
    unfold pMax pMin
    (repeat' split) <;> omega
  rw [← h]
  (repeat' split) <;> rfl
/-- how long an op takes: the same in both -/
theorem dl_lp {m : Nat} {c : Cd} {R : Nat → Ru} {i : Nat} (hi : i < 20) {u : Int} : ∀ (d j fu1 fu2 : Nat) (σ τ : pS), j + d = m → d < fu1 → d < fu2 → LW m c R σ τ → FCs σ τ → u = (if τ 88 i = 2 then 2 else 1) → ∃ v σ' τ', f_Law_delay_16_p2 fu1 u (j : Int) σ = some (v, σ') ∧ f_M_delayOf_84_p2 fu2 (i : Int) (j : Int) τ = some (v, τ') ∧ FR P23 σ σ' ∧ FR Q108 τ τ'
  | 0, j, fu1, fu2, σ, τ, hj, h1, h2, h, hF, hu => by
    obtain ⟨n1, rfl⟩ : ∃ n, fu1 = n + 1 := ⟨fu1 - 1, by omega⟩
    obtain ⟨n2, rfl⟩ : ∃ n, fu2 = n + 1 := ⟨fu2 - 1, by omega⟩
    have a3 := h.2.2.1
    have a4 := h.2.2.2.1
    refine ⟨u, σ, τ, ?_, ?_, FR.rf _ _, FR.rf _ _⟩
    · show (if σ 16 7 ≤ (j : Int) then _ else _) = _
      rw [if_pos (by omega)]
    · show (if τ 84 27 ≤ (j : Int) then _ else _) = _
      rw [if_pos (by omega), if_pos (by omega), Int.toNat_natCast, hu]
      by_cases q : τ 88 i = 2
      · rw [if_pos q, if_pos q]
      · rw [if_neg q, if_neg q]
  | d + 1, j, fu1, fu2, σ, τ, hj, h1, h2, h, hF, hu => by
    obtain ⟨n1, rfl⟩ : ∃ n, fu1 = n + 1 := ⟨fu1 - 1, by omega⟩
    obtain ⟨n2, rfl⟩ : ∃ n, fu2 = n + 1 := ⟨fu2 - 1, by omega⟩
    have hm := h.1
    have a3 := h.2.2.1
    have a4 := h.2.2.2.1
    have hjm : j < m := by omega
    have g : (0 : Int) ≤ (j : Int) ∧ (j : Int) < 16 := by omega
    have g17 : (0 : Int) ≤ (j : Int) ∧ (j : Int) < 17 := by omega
    have hj16 : j < 16 := by omega
    have k1 : (j + 1) + d = m := by omega
    have k2 : d < n1 := by omega
    have k3 : d < n2 := by omega
    have nX : ¬ σ 16 7 ≤ (j : Int) := by omega
    have nM : ¬ τ 84 27 ≤ (j : Int) := by omega
    have q88 : ¬ Q108 88 i := by unfold Q108; omega
    obtain ⟨⟨b1, b2, b3, b4⟩, ⟨c1, c2, c3, c4⟩, hRW⟩ := h.2.2.2.2.2 j hjm
    have eX : f_Law_delay_16_p2 (n1 + 1) u (j : Int) σ = (if (R j).1 = 100 then ((f_Law_holds_16 (j : Int) σ).bind fun q4 => (if q4.1 = 0 then (f_Law_delay_16_p2 n1 u ((j + 1 : Nat) : Int) q4.2) else ((f_Law_reckon_16 (q4.2 18 j) (q4.2 19 j) q4.2).bind fun q8 => (some (pMax 1 (pMin 20 q8.1), q8.2))))) else (f_Law_delay_16_p2 n1 u ((j + 1 : Nat) : Int) σ)) := by
      show (if σ 16 7 ≤ (j : Int) then _ else _) = _
      rw [if_neg nX, if_pos g, Int.toNat_natCast, b1, pw_s hj16 (by decide)]
      simp only [if_pos g, if_pos g17]
    have eM : f_M_delayOf_84_p2 (n2 + 1) (i : Int) (j : Int) τ = (if (R j).1 = 100 then ((f_M_reckonsTo_84 (τ 106 j) (τ 107 j) τ).bind fun q8 => (if q8.1 = 1 then ((f_M_reckonsTo_84 (q8.2 105 j) (q8.2 106 j) q8.2).bind fun q12 => (if 1 ≤ q12.1 then (if q12.1 ≤ 20 then (some (q12.1, q12.2)) else (some (20, q12.2))) else (some (1, q12.2)))) else (f_M_delayOf_84_p2 n2 (i : Int) ((j + 1 : Nat) : Int) q8.2))) else (f_M_delayOf_84_p2 n2 (i : Int) ((j + 1 : Nat) : Int) τ)) := by
      show (if τ 84 27 ≤ (j : Int) then _ else _) = _
      rw [if_neg nM, if_pos g, Int.toNat_natCast, c1, pw_s hj16 (by decide)]
      simp only [if_pos g]
    rw [eX, eM]
    by_cases k100 : (R j).1 = 100
    · rw [if_pos k100, if_pos k100]
      obtain ⟨b, v, σ1, τ1, r1, r2, r3, r4, r5⟩ := hs_ls h hF hjm
      rw [r1, r2, Option.bind_some, Option.bind_some]
      dsimp only
      have hL1 := h.sk r4 r5
      have hF1 := hF.mv r4 r5
      rcases r3 with ⟨p1, p2⟩ | ⟨p1, p2⟩
      · rw [if_pos p1, if_neg p2]
        obtain ⟨v', σ', τ', q1, q2, q3, q4⟩ := dl_lp hi (u := u) d (j + 1) n1 n2 σ1 τ1 k1 k2 k3 hL1 hF1 (by rw [r5.get (k := 88) q88]; exact hu)
        exact ⟨v', σ', τ', q1, q2, r4.tr q3, r5.tr q4⟩
      · rw [if_neg (by rw [p1]; decide), if_pos p2]
        obtain ⟨⟨d1, d2, d3, d4⟩, ⟨f1, f2, f3, f4⟩, -⟩ := hL1.2.2.2.2.2 j hjm
        obtain ⟨x, y, z, e1, e2, e3, l1, l2, l3, kE, -⟩ := hRW
        obtain ⟨K, w1, w2, w3⟩ := kE k100
        obtain ⟨w, σ', τ', s1, s2, s3, s4, -⟩ := rk_ls h.2.1 (Nat.le_trans l2 l3) l1 w1 w2 (Or.inr w3) hL1.2.2.2.2.1 hF1
        rw [d2, d3, f2, f3, e1, e2, s1, s2, Option.bind_some, Option.bind_some]
        dsimp only
        exact ⟨_, σ', τ', rfl, mm_eq w τ', r4.tr s3, r5.tr s4⟩
    · rw [if_neg k100, if_neg k100]
      obtain ⟨v', σ', τ', q1, q2, q3, q4⟩ := dl_lp hi (u := u) d (j + 1) n1 n2 σ τ k1 k2 k3 h hF hu
      exact ⟨v', σ', τ', q1, q2, q3, q4⟩
/-- is a store held back: the same in both -/
theorem hb_lp {m : Nat} {c : Cd} {R : Nat → Ru} : ∀ (d j fu1 fu2 : Nat) (σ τ : pS), j + d = m → d < fu1 → d < fu2 → LW m c R σ τ → FCs σ τ → ∃ v σ' τ', f_Law_holdsBack_16_p2 fu1 (j : Int) σ = some (v, σ') ∧ f_M_isHeldBack_84_p2 fu2 (j : Int) τ = some (v, τ') ∧ FR P23 σ σ' ∧ FR Q108 τ τ'
  | 0, j, fu1, fu2, σ, τ, hj, h1, h2, h, hF => by
    obtain ⟨n1, rfl⟩ : ∃ n, fu1 = n + 1 := ⟨fu1 - 1, by omega⟩
    obtain ⟨n2, rfl⟩ : ∃ n, fu2 = n + 1 := ⟨fu2 - 1, by omega⟩
    have a3 := h.2.2.1
    have a4 := h.2.2.2.1
    refine ⟨0, σ, τ, ?_, ?_, FR.rf _ _, FR.rf _ _⟩
    · show (if σ 16 7 ≤ (j : Int) then _ else _) = _
      rw [if_pos (by omega)]
    · show (if τ 84 27 ≤ (j : Int) then _ else _) = _
      rw [if_pos (by omega)]
  | d + 1, j, fu1, fu2, σ, τ, hj, h1, h2, h, hF => by
    obtain ⟨n1, rfl⟩ : ∃ n, fu1 = n + 1 := ⟨fu1 - 1, by omega⟩
    obtain ⟨n2, rfl⟩ : ∃ n, fu2 = n + 1 := ⟨fu2 - 1, by omega⟩
    have hm := h.1
    have a3 := h.2.2.1
    have a4 := h.2.2.2.1
    have hjm : j < m := by omega
    have g : (0 : Int) ≤ (j : Int) ∧ (j : Int) < 16 := by omega
    have hj16 : j < 16 := by omega
    have k1 : (j + 1) + d = m := by omega
    have k2 : d < n1 := by omega
    have k3 : d < n2 := by omega
    have nX : ¬ σ 16 7 ≤ (j : Int) := by omega
    have nM : ¬ τ 84 27 ≤ (j : Int) := by omega
    obtain ⟨⟨b1, -⟩, ⟨c1, -⟩, -⟩ := h.2.2.2.2.2 j hjm
    have eX : f_Law_holdsBack_16_p2 (n1 + 1) (j : Int) σ = (if (R j).1 = 120 then ((f_Law_holds_16 (j : Int) σ).bind fun q4 => (if q4.1 = 0 then (f_Law_holdsBack_16_p2 n1 ((j + 1 : Nat) : Int) q4.2) else (some (1, q4.2)))) else (f_Law_holdsBack_16_p2 n1 ((j + 1 : Nat) : Int) σ)) := by
      show (if σ 16 7 ≤ (j : Int) then _ else _) = _
      rw [if_neg nX, if_pos g, Int.toNat_natCast, b1, pw_s hj16 (by decide)]
    have eM : f_M_isHeldBack_84_p2 (n2 + 1) (j : Int) τ = (if (R j).1 = 120 then ((f_M_reckonsTo_84 (τ 106 j) (τ 107 j) τ).bind fun q6 => (if q6.1 = 1 then (some (1, q6.2)) else (f_M_isHeldBack_84_p2 n2 ((j + 1 : Nat) : Int) q6.2))) else (f_M_isHeldBack_84_p2 n2 ((j + 1 : Nat) : Int) τ)) := by
      show (if τ 84 27 ≤ (j : Int) then _ else _) = _
      rw [if_neg nM, if_pos g, Int.toNat_natCast, c1, pw_s hj16 (by decide)]
      simp only [if_pos g]
    rw [eX, eM]
    by_cases k120 : (R j).1 = 120
    · rw [if_pos k120, if_pos k120]
      obtain ⟨b, v, σ1, τ1, r1, r2, r3, r4, r5⟩ := hs_ls h hF hjm
      rw [r1, r2, Option.bind_some, Option.bind_some]
      dsimp only
      rcases r3 with ⟨p1, p2⟩ | ⟨p1, p2⟩
      · rw [if_pos p1, if_neg p2]
        obtain ⟨v', σ', τ', q1, q2, q3, q4⟩ := hb_lp d (j + 1) n1 n2 σ1 τ1 k1 k2 k3 (h.sk r4 r5) (hF.mv r4 r5)
        exact ⟨v', σ', τ', q1, q2, r4.tr q3, r5.tr q4⟩
      · rw [if_neg (by rw [p1]; decide), if_pos p2]
        exact ⟨1, σ1, τ1, rfl, rfl, r4, r5⟩
    · rw [if_neg k120, if_neg k120]
      exact hb_lp d (j + 1) n1 n2 σ τ k1 k2 k3 h hF
theorem LR.lw {σ τ : pS} (h : LR σ τ) : ∃ (m : Nat) (c : Cd) (R : Nat → Ru), LW m c R σ τ := by
  obtain ⟨m, c, R, a1, a2, a3, a4, a5, a6⟩ := h
  refine ⟨m, c, R, a1, a2, a3, a4, a5, fun j hj => ?_⟩
  obtain ⟨b, c1, c2, c3, c4, c5⟩ := a6 j hj
  exact ⟨b, ⟨c1, c2, c3, c4⟩, c5⟩
def P_off (i k x : Nat) : Prop := ((k = 39 ∨ k = 40) ∧ x = i) ∨ k = 23
def Q_off (i k x : Nat) : Prop := ((k = 118 ∨ k = 119) ∧ x = i) ∨ k = 108
theorem RM.soff {m : Nat} {D : Nat → Prop} {σ τ σ' τ' : pS} {i : Nat} (h : RM m D σ τ) (a1 : FR (P_off i) σ σ') (a2 : FR (Q_off i) τ τ') (g1 : σ' 39 i = 1) (g2 : τ' 118 i = 1) (g3 : σ' 40 i = τ' 119 i) (g4 : (0 ≤ σ 12 i → D (σ 12 i).toNat) ∧ (0 ≤ σ 13 i → D (σ 13 i).toNat)) : RM m D σ' τ' := ⟨fun j hj => by
    by_cases hji : j = i
    · rw [hji, g1, g2]; exact ⟨rfl, by decide, by decide⟩
    · rw [a1.get (k := 39) (x := j) (by unfold P_off; omega), a2.get (k := 118) (x := j) (by unfold Q_off; omega)]; exact h.st j hj,
  fun j hj q => by
    by_cases hji : j = i
    · rw [hji]; exact g3
    · rw [a1.get (k := 39) (x := j) (by unfold P_off; omega)] at q; rw [a1.get (k := 40) (x := j) (by unfold P_off; omega), a2.get (k := 119) (x := j) (by unfold Q_off; omega)]; exact h.ti j hj q,
  fun j hj => by rw [a1.get (k := 41) (x := j) (by unfold P_off; omega), a2.get (k := 126) (x := j) (by unfold Q_off; omega)]; exact h.rt j hj,
  fun j hj q => by rw [a1.get (k := 41) (x := j) (by unfold P_off; omega)] at q; have z := h.re j hj q; rw [a1.get (k := 5) (x := j) (by unfold P_off; omega), a1.get (k := 37) (x := j) (by unfold P_off; omega), a1.get (k := 7) (x := j) (by unfold P_off; omega), a2.get (k := 132) (x := j) (by unfold Q_off; omega)]; exact ⟨z.1, z.2.1, fun e he => by rw [a1.get (k := 42) (x := 4 * j + e) (by unfold P_off; omega), a2.get (k := 125) (x := 4 * j + e) (by unfold Q_off; omega)]; exact z.2.2 e he⟩,
  fun j hj q => by have z := h.va j hj q; rw [a1.get (k := 36) (x := j) (by unfold P_off; omega), a1.get (k := 34) (x := j) (by unfold P_off; omega), a1.get (k := 5) (x := j) (by unfold P_off; omega), a1.get (k := 37) (x := j) (by unfold P_off; omega), a1.get (k := 7) (x := j) (by unfold P_off; omega), a2.get (k := 120) (x := j) (by unfold Q_off; omega), a2.get (k := 122) (x := j) (by unfold Q_off; omega), a2.get (k := 121) (x := j) (by unfold Q_off; omega)]; exact ⟨z.1, z.2.1, z.2.2.1, fun k e he => by rw [a1.get (k := 38) (x := 4 * j + e) (by unfold P_off; omega), a2.get (k := 124) (x := 4 * j + e) (by unfold Q_off; omega)]; exact z.2.2.2 k e he⟩,
  fun j hj q => by
    by_cases hji : j = i
    · rw [hji, g1] at q; exact absurd q (by decide)
    · rw [a1.get (k := 39) (x := j) (by unfold P_off; omega)] at q; exact h.dn j hj q,
  fun j hj q => by
    rw [a1.get (k := 12) (x := j) (by unfold P_off; omega), a1.get (k := 13) (x := j) (by unfold P_off; omega)]
    by_cases hji : j = i
    · rw [hji]; exact g4
    · rw [a1.get (k := 39) (x := j) (by unfold P_off; omega)] at q; exact h.so j hj q,
  fun j hj => by rw [a1.get (k := 35) (x := j) (by unfold P_off; omega), a2.get (k := 123) (x := j) (by unfold Q_off; omega)]; exact h.rp j hj,
  fun j hj => by rw [a1.get (k := 30) (x := j) (by unfold P_off; omega), a2.get (k := 128) (x := j) (by unfold Q_off; omega)]; exact h.me j hj,
  fun j hj => by rw [a1.get (k := 26) (x := j) (by unfold P_off; omega), a2.get (k := 127) (x := j) (by unfold Q_off; omega)]; exact h.m0 j hj,
  fun j hj => by rw [a1.get (k := 31) (x := j) (by unfold P_off; omega), a2.get (k := 87) (x := j) (by unfold Q_off; omega)]; exact h.se j hj,
  by rw [a1.get (k := 28) (x := 3) (by unfold P_off; omega), a2.get (k := 84) (x := 3) (by unfold Q_off; omega)]; exact h.ns,
  by rw [a1.get (k := 28) (x := 5) (by unfold P_off; omega), a2.get (k := 84) (x := 0) (by unfold Q_off; omega)]; exact h.x,
  by rw [a1.get (k := 33) (x := 2) (by unfold P_off; omega), a2.get (k := 84) (x := 65) (by unfold Q_off; omega)]; exact h.cr,
  by rw [a1.get (k := 33) (x := 3) (by unfold P_off; omega), a2.get (k := 84) (x := 66) (by unfold Q_off; omega)]; exact h.ca,
  by rw [a1.get (k := 33) (x := 4) (by unfold P_off; omega), a2.get (k := 84) (x := 67) (by unfold Q_off; omega)]; exact h.cu,
  by rw [a1.get (k := 33) (x := 5) (by unfold P_off; omega), a2.get (k := 84) (x := 68) (by unfold Q_off; omega)]; exact h.cd,
  by rw [a1.get (k := 24) (x := 4) (by unfold P_off; omega), a2.get (k := 84) (x := 1) (by unfold Q_off; omega)]; exact h.ru,
  fun j hj => by rw [a1.get (k := 25) (x := j) (by unfold P_off; omega), a2.get (k := 85) (x := j) (by unfold Q_off; omega)]; exact h.rg j hj,
  fun j hj h20 => by rw [a1.get (k := 31) (x := j) (by unfold P_off; omega)]; exact h.sh j hj h20⟩
theorem pAnd_16 {a : Int} (h0 : 0 ≤ a) (h1 : a < 2147483648) : pAnd a 65535 = a % 65536 := by
  show ((Int32.ofInt a).toBitVec &&& 65535#32).toInt = _
  have e : ((Int32.ofInt a).toBitVec).toNat = a.toNat := by
    show (BitVec.ofInt 32 a).toNat = a.toNat
    rw [BitVec.toNat_ofInt]
    omega
  have h : ((Int32.ofInt a).toBitVec &&& 65535#32).toNat = a.toNat % 65536 := by
    rw [BitVec.toNat_and, e]
    show a.toNat &&& (2 ^ 16 - 1) = a.toNat % 2 ^ 16
    exact Nat.and_two_pow_sub_one_eq_mod _ _
  rw [BitVec.toInt_eq_toNat_of_lt (by omega), h]
  omega
/-- the next number drawn, the same in both -/
theorem dr_eq {x : Int} (h0 : 0 ≤ x) (h1 : x ≤ 65535) : ∃ y, pAnd (pw (pw (25173 * x) + 13849)) 65535 = y ∧ pRem (pw (pw (25173 * x) + 13849)) 65536 = y ∧ 0 ≤ y ∧ y ≤ 65535 := by
  have e1 : pw (25173 * x) = 25173 * x := pw_id (by omega) (by omega)
  have e2 : pw (25173 * x + 13849) = 25173 * x + 13849 := pw_id (by omega) (by omega)
  refine ⟨(25173 * x + 13849) % 65536, ?_, ?_, by omega, by omega⟩
  · rw [e1, e2]
    exact pAnd_16 (by omega) (by omega)
  · rw [e1, e2, pRem_eq (by omega) (by omega) (by decide) (by decide), Int.tmod_eq_emod_of_nonneg (by omega)]
def PS (k x : Nat) : Prop := k = 22 ∨ k = 23 ∨ (k = 3 ∧ x = 11)
def QS (k _x : Nat) : Prop := k = 108 ∨ k = 109
section SO
variable {m : Nat} {rec : Nat → O8} {D : Nat → Prop} {σ τ σ' τ' : pS}
theorem PS_N (k x : Nat) (h : PS k x) : PN k x := by unfold PS at h; unfold PN; omega
theorem QS_N (k x : Nat) (h : QS k x) : QN k x := by unfold QS at h; unfold QN; omega
theorem RN.sc (H : RN m rec D σ τ) (a1 : FR PS σ σ') (a2 : FR QS τ τ') : RN m rec D σ' τ' := by
  refine ⟨H.g.fr (a1.mono PS_N) (a2.mono QS_N), H.r.sno (a1.mono (fun k x h => by unfold PS at h; unfold P_sno; omega)) (a2.mono (fun k x h => by unfold QS at h; unfold Q_sno; omega)), fun j hj q => ?_, H.v.fr (fun k x hk => a1.get (by unfold PS; omega)), ?_⟩
  · rw [a1.get (k := 41) (by unfold PS; omega)] at q
    rw [a1.get (k := 39) (by unfold PS; omega)]
    exact H.t j hj q
  · unfold CW
    rw [a1.get (k := 33) (by unfold PS; omega), a2.get (k := 84) (by unfold QS; omega)]
    exact H.w
theorem RN.x (H : RN m rec D σ τ) (a1 : FR P_sx σ σ') (a2 : FR Q_sx τ τ') (g : σ' 28 5 = τ' 84 0 ∧ 0 ≤ σ' 28 5 ∧ σ' 28 5 ≤ 65535) : RN m rec D σ' τ' := by
  refine ⟨H.g.fr (a1.mono (fun k x h => by unfold P_sx at h; unfold PN; omega)) (a2.mono (fun k x h => by unfold Q_sx at h; unfold QN; omega)), H.r.sx a1 a2 g, fun j hj q => ?_, H.v.fr (fun k x hk => a1.get (by unfold P_sx; omega)), ?_⟩
  · rw [a1.get (k := 41) (by unfold P_sx; omega)] at q
    rw [a1.get (k := 39) (by unfold P_sx; omega)]
    exact H.t j hj q
  · unfold CW
    rw [a1.get (k := 33) (by unfold P_sx; omega), a2.get (k := 84) (by unfold Q_sx; omega)]
    exact H.w
theorem RN.cd (H : RN m rec D σ τ) (a1 : FR P_scd σ σ') (a2 : FR Q_scd τ τ') (g : σ' 33 5 = τ' 84 68) : RN m rec D σ' τ' := by
  refine ⟨H.g.fr (a1.mono (fun k x h => by unfold P_scd at h; unfold PN; omega)) (a2.mono (fun k x h => by unfold Q_scd at h; unfold QN; omega)), H.r.scd a1 a2 g, fun j hj q => ?_, H.v.fr (fun k x hk => a1.get (by unfold P_scd; omega)), ?_⟩
  · rw [a1.get (k := 41) (by unfold P_scd; omega)] at q
    rw [a1.get (k := 39) (by unfold P_scd; omega)]
    exact H.t j hj q
  · unfold CW
    rw [a1.get (k := 33) (x := 1) (by unfold P_scd; omega), a2.get (k := 84) (x := 64) (by unfold Q_scd; omega)]
    exact H.w
theorem RN.off {i : Nat} (H : RN m rec D σ τ) (hi : i < m) (h0 : σ 39 i = 0) (a1 : FR (P_off i) σ σ') (a2 : FR (Q_off i) τ τ') (g1 : σ' 39 i = 1) (g2 : τ' 118 i = 1) (g3 : σ' 40 i = τ' 119 i) (s1 : sdn σ (σ 12 i)) (s2 : sdn σ (σ 13 i)) : RN m rec D σ' τ' := by
  have hm := H.g.le
  obtain ⟨so1, so2⟩ := H.g.so i hi
  have r1 := src_r (σ 8) i (σ 9 i)
  have r2 := src_r (σ 8) i (σ 10 i)
  refine ⟨H.g.fr (a1.mono (fun k x h => by unfold P_off at h; unfold PN; omega)) (a2.mono (fun k x h => by unfold Q_off at h; unfold QN; omega)), H.r.soff a1 a2 g1 g2 g3 ⟨fun q => ?_, fun q => ?_⟩, fun j hj q => ?_, H.v.fr (fun k x hk => a1.get (by unfold P_off; omega)), ?_⟩
  · rcases s1 with z | z
    · omega
    · exact H.r.dn _ (by omega) z
  · rcases s2 with z | z
    · omega
    · exact H.r.dn _ (by omega) z
  · rw [a1.get (k := 41) (by unfold P_off; omega)] at q
    have hji : j ≠ i := fun e => by
      have := H.t j hj q
      rw [e, h0] at this
      exact absurd this (by decide)
    rw [a1.get (k := 39) (by unfold P_off; omega)]
    exact H.t j hj q
  · unfold CW
    rw [a1.get (k := 33) (by unfold P_off; omega), a2.get (k := 84) (by unfold Q_off; omega)]
    exact H.w
theorem fk (c : Nat) {σ : pS} {x : Nat} {v : Int} : FR (fun k _ => k = c) σ (pU σ c x v) := FR.u rfl
/-- what the law is told: the same in both -/
theorem tl_ls (H : RN m rec D σ τ) {i : Nat} (hi : i < m) {c w : Int} (hc : σ 3 11 = c) : ∃ σ' τ', f_Mach_tellLaw_3 (i : Int) w σ = some (0, σ') ∧ f_M_feels_84 (i : Int) c w τ = some (0, τ') ∧ FCs σ' τ' ∧ FR (fun k _ => k = 22) σ σ' ∧ FR (fun k _ => k = 109) τ τ' := by
  have hm := H.g.le
  have g : (0 : Int) ≤ (i : Int) ∧ (i : Int) < 20 := by omega
  have k1 := (H.g.kd hi).1
  have k2 := (H.r.se i hi).1
  have k3 := H.r.rp i hi
  have k4 := H.r.ru
  have cX : f_Mach_tellLaw_3 (i : Int) w σ = some (0, pU (pU (pU (pU (pU (pU (pU σ 22 0 (i : Int)) 22 1 (σ 5 i)) 22 2 (pRem c 100)) 22 3 (if σ 31 i = -1 then 16 else σ 31 i)) 22 4 (σ 35 i)) 22 5 (pRem (σ 24 4) 100)) 22 6 w) := by
    unfold f_Mach_tellLaw_3 f_Mach_tellLaw_3_p27 f_Law_tell_16
    simp only [if_pos g, Int.toNat_natCast, Option.bind_some, hc]
    by_cases z : σ 31 i = -1
    · rw [if_pos z, if_pos z]
    · rw [if_neg z, if_neg z]
  have mX : f_M_feels_84 (i : Int) c w τ = some (0, pU (pU (pU (pU (pU (pU (pU τ 109 0 (i : Int)) 109 1 (σ 5 i)) 109 2 (pRem c 100)) 109 3 (if σ 31 i = -1 then 16 else σ 31 i)) 109 4 (σ 35 i)) 109 5 (pRem (σ 24 4) 100)) 109 6 w) := by
    have e123 : (pU (pU (pU τ 109 0 (i : Int)) 109 1 (σ 5 i)) 109 2 (pRem c 100)) 123 i = σ 35 i := by
      rw [pU_c _ _ _ _ (by decide), pU_c _ _ _ _ (by decide), pU_c _ _ _ _ (by decide)]
      exact k3.symm
    have e84 : (pU (pU (pU τ 109 0 (i : Int)) 109 1 (σ 5 i)) 109 2 (pRem c 100)) 84 1 = σ 24 4 := by
      rw [pU_c _ _ _ _ (by decide), pU_c _ _ _ _ (by decide), pU_c _ _ _ _ (by decide)]
      exact k4.symm
    unfold f_M_feels_84 f_M_feels_84_p55
    simp only [if_pos g, Int.toNat_natCast, k1, ← k2, e123, e84]
    by_cases z : σ 31 i = -1
    · rw [if_pos z, if_pos z]
      rfl
    · rw [if_neg z, if_neg z]
      rfl
  refine ⟨_, _, cX, mX, fun j hj => ?_, ?_, ?_⟩
  · match j, hj with
    | 0, _ => rfl
    | 1, _ => rfl
    | 2, _ => rfl
    | 3, _ => rfl
    | 4, _ => rfl
    | 5, _ => rfl
    | 6, _ => rfl
  · exact ((((((fk 22).tr (fk 22)).tr (fk 22)).tr (fk 22)).tr (fk 22)).tr (fk 22)).tr (fk 22)
  · exact ((((((fk 109).tr (fk 109)).tr (fk 109)).tr (fk 109)).tr (fk 109)).tr (fk 109)).tr (fk 109)
end SO
section GO
variable {m mL : Nat} {rec : Nat → O8} {c : Cd} {R : Nat → Ru} {D : Nat → Prop} {σ τ : pS}
/-- an op goes off: the same in both -/
theorem go_ls {F : Int → Int → Int → Int → pS → Option (Int × pS)} {w lw a3 cy : Int} {i : Nat} (H : RN m rec D σ τ) (hL : LW mL c R σ τ) (hi : i < m) (hcy : σ 3 11 = cy) (h0 : σ 39 i = 0) (s1 : sdn σ (σ 12 i)) (s2 : sdn σ (σ 13 i)) : ∃ σ' τ', ((f_State_draw_28 σ).bind fun q13 => ((f_Mach_tellLaw_3 (i : Int) q13.1 q13.2).bind fun q14 => (if 0 ≤ (i : Int) ∧ (i : Int) < 20 then (if 0 ≤ (i : Int) ∧ (i : Int) < 20 then (if (q14.2 5 (i : Int).toNat) = 2 then (f_Mach_sendOff_3_p152 F w lw a3 (i : Int) 2 (q14.2 3 11) (i : Int) (pU q14.2 39 ((i : Int).toNat) 1)) else (f_Mach_sendOff_3_p152 F w lw a3 (i : Int) 1 (q14.2 3 11) (i : Int) (pU q14.2 39 ((i : Int).toNat) 1))) else none) else none))) = F w lw a3 ((i + 1 : Nat) : Int) σ' ∧ f_M_goesOff_84 (i : Int) cy τ = some (0, τ') ∧ RN m rec D σ' τ' ∧ LW mL c R σ' τ' ∧ FR PN σ σ' ∧ FR QN τ τ' ∧ σ' 3 11 = cy ∧ τ' 84 70 = τ 84 70 := by
  have hm := H.g.le
  have i20 : i < 20 := by omega
  have g : (0 : Int) ≤ (i : Int) ∧ (i : Int) < 20 := by omega
  obtain ⟨x1, x2, x3⟩ := H.r.x
  have hL16 : mL < 4096 := Nat.lt_of_le_of_lt hL.1 (by decide)
  obtain ⟨y, y1, y2, y3, y4⟩ := dr_eq x2 x3
  have a1 : FR P_sx σ (pU σ 28 5 y) := FR.u ⟨rfl, rfl⟩
  have b1 : FR Q_sx τ (pU τ 84 0 y) := FR.u ⟨rfl, rfl⟩
  have H1 := H.x a1 b1 (by rw [pU_s, pU_s]; exact ⟨rfl, y3, y4⟩)
  have L1 : LW mL c R (pU σ 28 5 y) (pU τ 84 0 y) := hL.mv (a1.get (by unfold P_sx; omega)) (fun k x _ _ => a1.get (by unfold P_sx; omega)) (b1.get (by unfold Q_sx; omega)) (fun k x _ _ => b1.get (by unfold Q_sx; omega))
  obtain ⟨σ2, τ2, t1, t2, t3, t4, t5⟩ := tl_ls H1 hi (c := cy) (w := pRem y 10) ((a1.get (by unfold P_sx; omega)).trans hcy)
  have H2 := H1.sc (t4.mono (fun k x h => Or.inl h)) (t5.mono (fun k x h => Or.inr h))
  have L2 : LW mL c R σ2 τ2 := L1.mv (t4.get (by omega)) (fun k x _ _ => t4.get (by omega)) (t5.get (by omega)) (fun k x _ _ => t5.get (by omega))
  have z39 : σ2 39 = σ 39 := funext (fun x => (t4.get (by omega)).trans (a1.get (by unfold P_sx; omega)))
  have z12 : σ2 12 i = σ 12 i := (t4.get (by omega)).trans (a1.get (by unfold P_sx; omega))
  have z13 : σ2 13 i = σ 13 i := (t4.get (by omega)).trans (a1.get (by unfold P_sx; omega))
  have z311 : σ2 3 11 = cy := ((t4.get (by omega)).trans (a1.get (by unfold P_sx; omega))).trans hcy
  have d1 : sdn σ2 (σ2 12 i) := by unfold sdn at *; rw [z39, z12]; exact s1
  have d2 : sdn σ2 (σ2 13 i) := by unfold sdn at *; rw [z39, z13]; exact s2
  have k88 := (H2.g.kd hi).1
  have p3 : FR (P_off i) σ2 (pU σ2 39 i 1) := FR.u (Or.inl ⟨Or.inl rfl, rfl⟩)
  have q3 : FR (Q_off i) τ2 (pU τ2 118 i 1) := FR.u (Or.inl ⟨Or.inl rfl, rfl⟩)
  have L3 : LW mL c R (pU σ2 39 i 1) (pU τ2 118 i 1) := L2.mv (p3.get (by unfold P_off; omega)) (fun k x _ _ => p3.get (by unfold P_off; omega)) (q3.get (by unfold Q_off; omega)) (fun k x _ _ => q3.get (by unfold Q_off; omega))
  have F3 : FCs (pU σ2 39 i 1) (pU τ2 118 i 1) := fun j hj => by rw [pU_c _ _ _ _ (by decide), pU_c _ _ _ _ (by decide)]; exact t3 j hj
  have e88 : pU τ2 118 i 1 88 i = σ2 5 i := (pU_c _ _ _ _ (by decide)).trans k88
  obtain ⟨v, σ4, τ4, v1, v2, v3, v4⟩ := dl_lp (i := i) i20 (u := if σ2 5 i = 2 then 2 else 1) mL 0 4096 4096 _ _ (by omega) hL16 hL16 L3 F3 (by rw [e88])
  have p4 : FR (P_off i) (pU σ2 39 i 1) σ4 := v3.mono (fun k x h => Or.inr h)
  have q4 : FR (Q_off i) (pU τ2 118 i 1) τ4 := v4.mono (fun k x h => Or.inr h)
  have p5 : FR (P_off i) σ4 (pU σ4 40 i (pw (cy + v))) := FR.u (Or.inl ⟨Or.inr rfl, rfl⟩)
  have q5 : FR (Q_off i) τ4 (pU τ4 119 i (pw (cy + v))) := FR.u (Or.inl ⟨Or.inr rfl, rfl⟩)
  have P := (p3.tr p4).tr p5
  have Q := (q3.tr q4).tr q5
  have H5 := H2.off hi (by rw [z39]; exact h0) P Q (by rw [pU_c _ _ _ _ (by decide), v3.get (k := 39) (by unfold P23; omega), pU_s]) (by rw [pU_c _ _ _ _ (by decide), v4.get (k := 118) (by unfold Q108; omega), pU_s]) (by rw [pU_s, pU_s]) d1 d2
  have L5 : LW mL c R (pU σ4 40 i (pw (cy + v))) (pU τ4 119 i (pw (cy + v))) := L2.mv (P.get (by unfold P_off; omega)) (fun k x _ _ => P.get (by unfold P_off; omega)) (Q.get (by unfold Q_off; omega)) (fun k x _ _ => Q.get (by unfold Q_off; omega))
  have N1 : FR PN σ σ2 := (a1.mono (fun k x h => by unfold P_sx at h; unfold PN; omega)).tr (t4.mono (fun k x h => by unfold PN; omega))
  have N2 : FR QN τ τ2 := (b1.mono (fun k x h => by unfold Q_sx at h; unfold QN; omega)).tr (t5.mono (fun k x h => by unfold QN; omega))
  refine ⟨_, _, ?_, ?_, H5, L5, N1.tr (P.mono (fun k x h => by unfold P_off at h; unfold PN; omega)), N2.tr (Q.mono (fun k x h => by unfold Q_off at h; unfold QN; omega)), (P.get (by unfold P_off; omega)).trans z311, (Q.get (by unfold Q_off; omega)).trans ((t5.get (by omega)).trans (b1.get (by unfold Q_sx; omega)))⟩
  · have eD : f_State_draw_28 σ = some (pRem y 10, pU σ 28 5 y) := by unfold f_State_draw_28; rw [y1]
    have e152 : ∀ u : Int, f_Mach_sendOff_3_p152 F w lw a3 (i : Int) u (σ2 3 11) (i : Int) (pU σ2 39 i 1) = ((f_Law_delay_16_p2 4096 u ((0 : Nat) : Int) (pU σ2 39 i 1)).bind fun q18 => F w lw a3 ((i + 1 : Nat) : Int) (pU q18.2 40 i (pw (cy + q18.1)))) := fun u => by
      unfold f_Mach_sendOff_3_p152 f_Law_delay_16
      simp only [if_pos g, Int.toNat_natCast, z311, pw_s i20 (show 20 ≤ 100000 by decide)]
      rfl
    rw [eD, Option.bind_some]
    dsimp only
    rw [t1, Option.bind_some]
    dsimp only
    rw [if_pos g, if_pos g, Int.toNat_natCast, e152, e152]
    by_cases z : σ2 5 i = 2
    · rw [if_pos z] at v1 ⊢
      rw [v1, Option.bind_some]
    · rw [if_neg z] at v1 ⊢
      rw [v1, Option.bind_some]
  · unfold f_M_goesOff_84 f_M_delayOf_84
    rw [← x1, y2, t2, Option.bind_some]
    dsimp only
    rw [if_pos g, Int.toNat_natCast]
    have v2' : f_M_delayOf_84_p2 4096 (i : Int) 0 (pU τ2 118 i 1) = some (v, τ4) := v2
    rw [v2', Option.bind_some, if_pos g]
/-- ops go off: the same in both -/
theorem so_lp {w lw cy : Int} (hlw : lw = 0 ∨ lw = 1) : ∀ (d i fu1 fu2 : Nat) (gone : Int) (σ τ : pS), i + d = m → d < fu1 → d < fu2 → σ 3 11 = cy → τ 84 70 = lw → RN m rec D σ τ → LW mL c R σ τ → ∃ σ' τ', f_Mach_sendOff_3_p5 fu1 w lw gone (i : Int) σ = some (0, σ') ∧ f_M_cycleGoes_84_p47 fu2 cy w gone (i : Int) τ = ((f_M_retires_84 cy τ').bind fun q3 => some (0, q3.2)) ∧ RN m rec D σ' τ' ∧ LW mL c R σ' τ' ∧ FR PN σ σ' ∧ FR QN τ τ' ∧ σ' 3 11 = cy ∧ τ' 84 70 = lw
  | 0, i, fu1, fu2, gone, σ, τ, hi, h1, h2, hc, h70, H, hL => by
    obtain ⟨n1, rfl⟩ : ∃ n, fu1 = n + 1 := ⟨fu1 - 1, by omega⟩
    obtain ⟨n2, rfl⟩ : ∃ n, fu2 = n + 1 := ⟨fu2 - 1, by omega⟩
    refine ⟨σ, τ, ?_, ?_, H, hL, FR.rf _ _, FR.rf _ _, hc, h70⟩
    · show (if σ 4 11 ≤ (i : Int) then _ else _) = _
      rw [H.g.cm, if_pos (by omega)]
    · show (if τ 84 2 ≤ (i : Int) then _ else _) = _
      rw [H.g.mm, if_pos (by omega)]
  | d + 1, i, fu1, fu2, gone, σ, τ, hi, h1, h2, hc, h70, H, hL => by
    obtain ⟨n1, rfl⟩ : ∃ n, fu1 = n + 1 := ⟨fu1 - 1, by omega⟩
    obtain ⟨n2, rfl⟩ : ∃ n, fu2 = n + 1 := ⟨fu2 - 1, by omega⟩
    have hm := H.g.le
    have him : i < m := by omega
    have i20 : i < 20 := by omega
    have g : (0 : Int) ≤ (i : Int) ∧ (i : Int) < 20 := by omega
    have d1 : (i + 1) + d = m := by omega
    have d2 : d < n1 := by omega
    have d3 : d < n2 := by omega
    have nm : ¬ (m : Int) ≤ (i : Int) := by omega
    have st := (H.r.st i him).1
    obtain ⟨b1, b2, bb, c1, c2, c3, c4, c5⟩ := sd_ls H him
    obtain ⟨kb, k1, k2⟩ := kw_ls H him hlw h70
    have next : ∀ (gone' : Int) (σ1 τ1 : pS), RN m rec D σ1 τ1 → LW mL c R σ1 τ1 → FR PN σ σ1 → FR QN τ τ1 → σ1 3 11 = cy → τ1 84 70 = lw → f_Mach_sendOff_3_p5 (n1 + 1) w lw gone (i : Int) σ = f_Mach_sendOff_3_p5 n1 w lw gone' ((i + 1 : Nat) : Int) σ1 → f_M_cycleGoes_84_p47 (n2 + 1) cy w gone (i : Int) τ = f_M_cycleGoes_84_p47 n2 cy w gone' ((i + 1 : Nat) : Int) τ1 → ∃ σ' τ', f_Mach_sendOff_3_p5 (n1 + 1) w lw gone (i : Int) σ = some (0, σ') ∧ f_M_cycleGoes_84_p47 (n2 + 1) cy w gone (i : Int) τ = ((f_M_retires_84 cy τ').bind fun q3 => some (0, q3.2)) ∧ RN m rec D σ' τ' ∧ LW mL c R σ' τ' ∧ FR PN σ σ' ∧ FR QN τ τ' ∧ σ' 3 11 = cy ∧ τ' 84 70 = lw := fun gone' σ1 τ1 x1 x2 x3 x4 x5 x6 x7 x8 => by
      obtain ⟨σ', τ', r1, r2, r3, r4, r5, r6, r7, r8⟩ := so_lp hlw d (i + 1) n1 n2 gone' σ1 τ1 d1 d2 d3 x5 x6 x1 x2
      exact ⟨σ', τ', x7.trans r1, x8.trans r2, r3, r4, x3.tr r5, x4.tr r6, r7, r8⟩
    have eX : f_Mach_sendOff_3_p5 (n1 + 1) w lw gone (i : Int) σ = (if σ 39 i = 0 then (if b1 = 0 then f_Mach_sendOff_3_p5 n1 w lw gone ((i + 1 : Nat) : Int) σ else (if b2 = 0 then f_Mach_sendOff_3_p5 n1 w lw gone ((i + 1 : Nat) : Int) σ else (if kb = 0 then (if w ≤ gone then f_Mach_sendOff_3_p5 n1 w lw gone ((i + 1 : Nat) : Int) σ else ((f_State_draw_28 σ).bind fun q13 => ((f_Mach_tellLaw_3 (i : Int) q13.1 q13.2).bind fun q14 => (if 0 ≤ (i : Int) ∧ (i : Int) < 20 then (if 0 ≤ (i : Int) ∧ (i : Int) < 20 then (if (q14.2 5 (i : Int).toNat) = 2 then (f_Mach_sendOff_3_p152 (f_Mach_sendOff_3_p5 n1) w lw (pw (gone + 1)) (i : Int) 2 (q14.2 3 11) (i : Int) (pU q14.2 39 ((i : Int).toNat) 1)) else (f_Mach_sendOff_3_p152 (f_Mach_sendOff_3_p5 n1) w lw (pw (gone + 1)) (i : Int) 1 (q14.2 3 11) (i : Int) (pU q14.2 39 ((i : Int).toNat) 1))) else none) else none)))) else f_Mach_sendOff_3_p5 n1 w lw gone ((i + 1 : Nat) : Int) (pU σ 33 5 (pw (σ 33 5 + 1)))))) else f_Mach_sendOff_3_p5 n1 w lw gone ((i + 1 : Nat) : Int) σ) := by
      show (if σ 4 11 ≤ (i : Int) then _ else _) = _
      rw [H.g.cm, if_neg nm, if_pos g, Int.toNat_natCast, if_pos g, c1, Option.bind_some, if_pos g]
      dsimp only
      rw [c2, Option.bind_some]
      dsimp only
      rw [k1, Option.bind_some, pw_s i20 (show 20 ≤ 100000 by decide)]
    have eM : f_M_cycleGoes_84_p47 (n2 + 1) cy w gone (i : Int) τ = (if σ 39 i = 0 then (if bb = 0 then f_M_cycleGoes_84_p47 n2 cy w gone ((i + 1 : Nat) : Int) τ else (if kb = 0 then (if w ≤ gone then f_M_cycleGoes_84_p47 n2 cy w gone ((i + 1 : Nat) : Int) τ else ((f_M_goesOff_84 (i : Int) cy τ).bind fun q11 => f_M_cycleGoes_84_p47 n2 cy w (pw (gone + 1)) ((i + 1 : Nat) : Int) q11.2)) else f_M_cycleGoes_84_p47 n2 cy w gone ((i + 1 : Nat) : Int) (pU τ 84 68 (pw (τ 84 68 + 1))))) else f_M_cycleGoes_84_p47 n2 cy w gone ((i + 1 : Nat) : Int) τ) := by
      show (if τ 84 2 ≤ (i : Int) then _ else _) = _
      rw [H.g.mm, if_neg nm, if_pos g, Int.toNat_natCast, ← st, c3, Option.bind_some]
      dsimp only
      rw [k2, Option.bind_some, pw_s i20 (show 20 ≤ 100000 by decide)]
    by_cases z : σ 39 i = 0
    · by_cases zb : bb = 0
      · refine next gone σ τ H hL (FR.rf _ _) (FR.rf _ _) hc h70 ?_ ?_
        · rw [eX, if_pos z]
          rcases c4.mp zb with q | q
          · rw [if_pos q]
          · by_cases q1 : b1 = 0
            · rw [if_pos q1]
            · rw [if_neg q1, if_pos q]
        · rw [eM, if_pos z, if_pos zb]
      · have n1' : ¬ b1 = 0 := fun q => zb (c4.mpr (Or.inl q))
        have n2' : ¬ b2 = 0 := fun q => zb (c4.mpr (Or.inr q))
        obtain ⟨sd1, sd2⟩ := c5 zb
        by_cases zk : kb = 0
        · by_cases zw : w ≤ gone
          · refine next gone σ τ H hL (FR.rf _ _) (FR.rf _ _) hc h70 ?_ ?_
            · rw [eX, if_pos z, if_neg n1', if_neg n2', if_pos zk, if_pos zw]
            · rw [eM, if_pos z, if_neg zb, if_pos zk, if_pos zw]
          · obtain ⟨σ1, τ1, r1, r2, r3, r4, r5, r6, r7, r8⟩ := go_ls (F := f_Mach_sendOff_3_p5 n1) (w := w) (lw := lw) (a3 := pw (gone + 1)) H hL him hc z sd1 sd2
            refine next (pw (gone + 1)) σ1 τ1 r3 r4 r5 r6 r7 (r8.trans h70) ?_ ?_
            · rw [eX, if_pos z, if_neg n1', if_neg n2', if_pos zk, if_neg zw]
              exact r1
            · rw [eM, if_pos z, if_neg zb, if_pos zk, if_neg zw, r2, Option.bind_some]
        · have f1 : FR P_scd σ (pU σ 33 5 (pw (σ 33 5 + 1))) := FR.u ⟨rfl, rfl⟩
          have f2 : FR Q_scd τ (pU τ 84 68 (pw (τ 84 68 + 1))) := FR.u ⟨rfl, rfl⟩
          refine next gone _ _ (H.cd f1 f2 (by rw [pU_s, pU_s, H.r.cd])) (hL.mv (f1.get (by unfold P_scd; omega)) (fun k x _ _ => f1.get (by unfold P_scd; omega)) (f2.get (by unfold Q_scd; omega)) (fun k x _ _ => f2.get (by unfold Q_scd; omega))) (f1.mono (fun k x h => by unfold P_scd at h; unfold PN; omega)) (f2.mono (fun k x h => by unfold Q_scd at h; unfold QN; omega)) ((f1.get (by unfold P_scd; omega)).trans hc) ((f2.get (by unfold Q_scd; omega)).trans h70) ?_ ?_
          · rw [eX, if_pos z, if_neg n1', if_neg n2', if_neg zk]
          · rw [eM, if_pos z, if_neg zb, if_neg zk]
    · refine next gone σ τ H hL (FR.rf _ _) (FR.rf _ _) hc h70 ?_ ?_
      · rw [eX, if_neg z]
      · rw [eM, if_neg z]
end GO
