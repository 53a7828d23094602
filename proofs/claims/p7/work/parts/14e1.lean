def tpk (u : Int) : Int := if u = -1 then 1 else u
def CDs (c : Cd) (σ τ : pS) : Prop := ∀ (i : Nat) (q : Int × Int), c[i]? = some q → σ 20 i = q.1 ∧ σ 21 i = q.2 ∧ τ 103 i = 1048576 * mop q.1 + q.2 ∧ 0 ≤ q.2 ∧ q.2 < 1048576
def FCs (σ τ : pS) : Prop := ∀ j, j < 7 → σ 22 j = τ 109 j
def SKs (u : Int) (σ τ : pS) : Prop := (∀ x : Nat, (x : Int) < tpk u → σ 23 x = τ 108 x) ∧ (u = -1 → σ 23 0 = 0 ∨ σ 23 0 = 1)
def P23 (k _x : Nat) : Prop := k = 23
def Q108 (k _x : Nat) : Prop := k = 108
def RG (F G : Option (Int × pS)) (σ τ : pS) (u : Int) : Prop := ∃ v σ' τ', F = some (v, σ') ∧ G = some (v, τ') ∧ FR P23 σ σ' ∧ FR Q108 τ τ' ∧ (u = -1 → v = 0 ∨ v = 1)
theorem RG.mv {F G : Option (Int × pS)} {σ τ σ1 τ1 : pS} {u : Int} (h : RG F G σ1 τ1 u) (h1 : FR P23 σ σ1) (h2 : FR Q108 τ τ1) : RG F G σ τ u := by
  obtain ⟨v, σ', τ', a, b, c, d, e⟩ := h
  exact ⟨v, σ', τ', a, b, h1.tr c, h2.tr d, e⟩
theorem CDs.mv {c : Cd} {σ τ σ1 τ1 : pS} (h : CDs c σ τ) (h1 : FR P23 σ σ1) (h2 : FR Q108 τ τ1) : CDs c σ1 τ1 := fun i q hq => by
  rw [h1.get (k := 20) (by unfold P23; omega), h1.get (k := 21) (by unfold P23; omega), h2.get (k := 103) (by unfold Q108; omega)]
  exact h i q hq
theorem FCs.mv {σ τ σ1 τ1 : pS} (h : FCs σ τ) (h1 : FR P23 σ σ1) (h2 : FR Q108 τ τ1) : FCs σ1 τ1 := fun j hj => by
  rw [h1.get (k := 22) (by unfold P23; omega), h2.get (k := 109) (by unfold Q108; omega)]
  exact h j hj
theorem rk_sk {b : Nat} (hb : b ≤ 240) {t : Int} {v : Nat} (hv : v ≤ b) {σ : pS} : ∀ (e k n : Nat), k + e = v → f_Law_reckon_16_p8 (n + e) (b : Int) t (v : Int) (k : Int) σ = f_Law_reckon_16_p8 n (b : Int) t (v : Int) (v : Int) σ
  | 0, k, n, h => by
    have : k = v := by omega
    rw [this, Nat.add_zero]
  | e + 1, k, n, h => by
    refine Eq.trans ?_ (rk_sk hb hv (t := t) (σ := σ) e (k + 1) n (by omega))
    show (if (b : Int) ≤ (k : Int) then _ else _) = _
    rw [if_neg (by omega), if_neg (by omega), if_neg (by omega), pw_s (show k < 240 by omega) (by decide)]
    rfl
/-- two of the stack put together, the same in both -/
theorem jr_1 {s x y : Int} (hs : s = 43 ∨ s = 45 ∨ s = 42 ∨ ((s = 47 ∨ s = 37) ∧ y ≠ 0)) (σ τ : pS) : ∃ z, f_Law_joined s x y σ = some (z, σ) ∧ f_M_reckon (mop s) x y τ = some (z, τ) := by
  rcases hs with rfl | rfl | rfl | ⟨rfl | rfl, hy⟩
  · exact ⟨pw (x + y), rfl, rfl⟩
  · exact ⟨pw (x - y), rfl, rfl⟩
  · exact ⟨pw (x * y), rfl, rfl⟩
  · refine ⟨pDiv x y, ?_, ?_⟩
    · show (if y = 0 then _ else if y ≠ 0 then _ else _) = _
      rw [if_neg hy, if_pos hy]
    · show (if y ≠ 0 then _ else _) = _
      rw [if_pos hy]
  · refine ⟨pRem x y, ?_, ?_⟩
    · show (if y = 0 then _ else if y ≠ 0 then _ else _) = _
      rw [if_neg hy, if_pos hy]
    · show (if y ≠ 0 then _ else _) = _
      rw [if_pos hy]
theorem jr_2 {s x y : Int} (hs : s = 60 ∨ s = 62 ∨ s = 61) (σ τ : pS) : ∃ z, f_Law_joined s x y σ = some (z, σ) ∧ f_M_reckon (mop s) x y τ = some (z, τ) ∧ (z = 0 ∨ z = 1) := by
  rcases hs with rfl | rfl | rfl
  · by_cases h : y ≤ x
    · exact ⟨0, if_pos h, if_pos h, Or.inl rfl⟩
    · exact ⟨1, if_neg h, if_neg h, Or.inr rfl⟩
  · by_cases h : x ≤ y
    · exact ⟨0, if_pos h, if_pos h, Or.inl rfl⟩
    · exact ⟨1, if_neg h, if_neg h, Or.inr rfl⟩
  · by_cases h : x = y
    · exact ⟨1, if_pos h, if_pos h, Or.inr rfl⟩
    · exact ⟨0, if_neg h, if_neg h, Or.inl rfl⟩
theorem c_234 {F : Int → Int → Int → Int → pS → Option (Int × pS)} {b nx : Int} {k g : Nat} (hk : k < 240) (hg : g ≤ 40) {s z : Int} {σ : pS} (hz : f_Law_joined s (σ 23 g) (σ 23 (g + 1)) σ = some (z, σ)) : f_Law_reckon_16_p234 F b ((g + 2 : Nat) : Int) nx (k : Int) s σ = F b ((g + 1 : Nat) : Int) nx ((k + 1 : Nat) : Int) (pU σ 23 g z) := by
  unfold f_Law_reckon_16_p234
  have e1 : pw (((g + 2 : Nat) : Int) + -1) = ((g + 1 : Nat) : Int) := by rw [pw_id (by omega) (by omega)]; omega
  have e2 : pw (((g + 1 : Nat) : Int) - 1) = (g : Int) := by rw [pw_id (by omega) (by omega)]; omega
  rw [e1, e2, if_pos (by omega), if_pos (by omega), Int.toNat_natCast, Int.toNat_natCast, hz, Option.bind_some, if_pos (by omega), pw_s hk (by decide)]
theorem m_203 {F : Int → Int → Int → Int → pS → Option (Int × pS)} {b a4 a5 : Int} {g : Nat} (hg : g ≤ 40) {s z : Int} {τ : pS} (hz : f_M_reckon s (τ 108 g) (τ 108 (g + 1)) τ = some (z, τ)) : f_M_reckonsTo_84_p203 F b ((g + 1 : Nat) : Int) a4 a5 s τ = F b ((g + 1 : Nat) : Int) a4 a5 (pU τ 108 g z) := by
  unfold f_M_reckonsTo_84_p203
  have e2 : pw (((g + 1 : Nat) : Int) - 1) = (g : Int) := by rw [pw_id (by omega) (by omega)]; omega
  rw [e2, if_pos (by omega), if_pos (by omega), Int.toNat_natCast, Int.toNat_natCast, hz, Option.bind_some, if_pos (by omega)]
theorem tpk_n {u : Int} {h : Nat} (e : u = (h : Int)) : tpk u = (h : Int) := by
  unfold tpk
  rw [if_neg (by omega), e]
theorem tpk_b {u : Int} (e : u = -1) : tpk u = ((1 : Nat) : Int) := by
  unfold tpk
  rw [if_pos e]
  rfl
theorem rk_lp {c : Cd} {K : Nat → Int} {a b : Nat} (hc : c.length ≤ 240) (hb : b ≤ c.length) (hW : WT c K a b) (hKb : K b = -1 ∨ K b = 1) : ∀ (d k fu1 fu2 : Nat) (nx : Int) (σ τ : pS), k + d = b → a ≤ k → d < fu1 → d < fu2 → nx ≤ (k : Int) → CDs c σ τ → FCs σ τ → SKs (K k) σ τ → RG (f_Law_reckon_16_p8 fu1 (b : Int) (tpk (K k)) nx (k : Int) σ) (f_M_reckonsTo_84_p16 fu2 (b : Int) (tpk (K k)) 0 (k : Int) τ) σ τ (K b) := by
  intro d
  induction d using Nat.strongRecOn with
  | _ d ih =>
  intro k fu1 fu2 nx σ τ hk ha h1 h2 hnx hC hF hS
  obtain ⟨n1, rfl⟩ : ∃ n, fu1 = n + 1 := ⟨fu1 - 1, by omega⟩
  obtain ⟨n2, rfl⟩ : ∃ n, fu2 = n + 1 := ⟨fu2 - 1, by omega⟩
  by_cases hd0 : d = 0
  · have hkb : k = b := by omega
    subst hkb
    have ht : tpk (K k) = ((1 : Nat) : Int) := by
      rcases hKb with e | e
      · exact tpk_b e
      · exact tpk_n e
    refine ⟨σ 23 0, σ, τ, ?_, ?_, FR.rf _ _, FR.rf _ _, hS.2⟩
    · show (if (k : Int) ≤ (k : Int) then _ else _) = _
      rw [if_pos (Int.le_refl _), ht]
      rfl
    · show (if (k : Int) ≤ (k : Int) then _ else _) = _
      rw [if_pos (Int.le_refl _), hS.1 0 (by rw [ht]; decide)]
  obtain ⟨s, v, hcs, ho⟩ := hW k ha (by omega)
  have k240 : k < 240 := by omega
  have g : (0 : Int) ≤ (k : Int) ∧ (k : Int) < 240 := by omega
  have g2 : (0 : Int) ≤ (k : Int) ∧ (k : Int) < 260 := by omega
  have eK : pw ((k : Int) + 1) = ((k + 1 : Nat) : Int) := pw_s k240 (by decide)
  have nx1 : nx ≤ ((k + 1 : Nat) : Int) := by omega
  have nb : ¬ (b : Int) ≤ (k : Int) := by omega
  have n240 : ¬ (240 : Int) ≤ (k : Int) := by omega
  have e20 : σ 20 k = s := (hC k (s, v) hcs).1
  have e21 : σ 21 k = v := (hC k (s, v) hcs).2.1
  -- one number more
  have push : ∀ (h : Nat) (x : Int), K k = (h : Int) → h ≤ 30 → K (k + 1) = K k + 1 → RG (f_Law_reckon_16_p8 n1 (b : Int) ((h + 1 : Nat) : Int) nx ((k + 1 : Nat) : Int) (pU σ 23 h x)) (f_M_reckonsTo_84_p16 n2 (b : Int) ((h + 1 : Nat) : Int) 0 ((k + 1 : Nat) : Int) (pU τ 108 h x)) σ τ (K b) := fun h x hh h30 hK => by
    have f1 : FR P23 σ (pU σ 23 h x) := FR.u rfl
    have f2 : FR Q108 τ (pU τ 108 h x) := FR.u rfl
    have e1 : K (k + 1) = ((h + 1 : Nat) : Int) := by omega
    have r := ih (d - 1) (by omega) (k + 1) n1 n2 nx (pU σ 23 h x) (pU τ 108 h x) (by omega) (by omega) (by omega) (by omega) nx1 (hC.mv f1 f2) (hF.mv f1 f2) ⟨fun y hy => by
      rw [tpk_n e1] at hy
      by_cases hyh : y = h
      · rw [hyh, pU_s, pU_s]
      · rw [pU_i _ _ _ _ hyh, pU_i _ _ _ _ hyh]
        exact hS.1 y (by rw [tpk_n hh]; omega), fun q => by omega⟩
    rw [tpk_n e1] at r
    exact r.mv f1 f2
  -- two put together
  have join : ∀ (h : Nat) (z : Int), K k = ((h + 2 : Nat) : Int) → h ≤ 40 → K (k + 1) = ((h + 1 : Nat) : Int) ∨ (h = 0 ∧ K (k + 1) = -1 ∧ (z = 0 ∨ z = 1)) → RG (f_Law_reckon_16_p8 n1 (b : Int) ((h + 1 : Nat) : Int) nx ((k + 1 : Nat) : Int) (pU σ 23 h z)) (f_M_reckonsTo_84_p16 n2 (b : Int) ((h + 1 : Nat) : Int) 0 ((k + 1 : Nat) : Int) (pU τ 108 h z)) σ τ (K b) := fun h z hh h30 hK => by
    have f1 : FR P23 σ (pU σ 23 h z) := FR.u rfl
    have f2 : FR Q108 τ (pU τ 108 h z) := FR.u rfl
    have e1 : tpk (K (k + 1)) = ((h + 1 : Nat) : Int) := by
      rcases hK with q | ⟨q1, q2, -⟩
      · exact tpk_n q
      · rw [q1]; exact tpk_b q2
    have r := ih (d - 1) (by omega) (k + 1) n1 n2 nx (pU σ 23 h z) (pU τ 108 h z) (by omega) (by omega) (by omega) (by omega) nx1 (hC.mv f1 f2) (hF.mv f1 f2) ⟨fun y hy => by
      rw [e1] at hy
      by_cases hyh : y = h
      · rw [hyh, pU_s, pU_s]
      · rw [pU_i _ _ _ _ hyh, pU_i _ _ _ _ hyh]
        exact hS.1 y (by rw [tpk_n hh]; omega), fun q => by
      rcases hK with q1 | ⟨q1, -, q3⟩
      · omega
      · rw [q1, pU_s]; exact q3⟩
    rw [e1] at r
    exact r.mv f1 f2
  have mE : f_M_reckonsTo_84_p16 (n2 + 1) (b : Int) (tpk (K k)) 0 (k : Int) τ = (if mop s = 0 then (f_M_reckonsTo_84_p63 (f_M_reckonsTo_84_p16 n2) (b : Int) (tpk (K k)) 0 ((k + 1 : Nat) : Int) (mop s) v τ) else (if mop s = 1 then (f_M_reckonsTo_84_p63 (f_M_reckonsTo_84_p16 n2) (b : Int) (tpk (K k)) 0 ((k + 1 : Nat) : Int) (mop s) v τ) else (if mop s = 10 then (if 0 ≤ (pw (tpk (K k) - 1)) ∧ (pw (tpk (K k) - 1)) < 260 then (if 0 ≤ (pw (tpk (K k) - 1)) ∧ (pw (tpk (K k) - 1)) < 260 then (f_M_reckonsTo_84_p16 n2 (b : Int) (tpk (K k)) 0 ((k + 1 : Nat) : Int) (pU τ 108 ((pw (tpk (K k) - 1)).toNat) (pw (1 - (τ 108 (pw (tpk (K k) - 1)).toNat))))) else none) else none) else (if mop s = 11 then (f_M_reckonsTo_84_p135 (f_M_reckonsTo_84_p16 n2) (b : Int) (tpk (K k)) 0 ((k + 1 : Nat) : Int) (mop s) v τ) else (if mop s = 12 then (f_M_reckonsTo_84_p135 (f_M_reckonsTo_84_p16 n2) (b : Int) (tpk (K k)) 0 ((k + 1 : Nat) : Int) (mop s) v τ) else (if mop s = 5 then (f_M_reckonsTo_84_p192 (f_M_reckonsTo_84_p16 n2) (b : Int) (pw (tpk (K k) - 1)) 0 ((k + 1 : Nat) : Int) (mop s) τ) else (if mop s = 6 then (f_M_reckonsTo_84_p192 (f_M_reckonsTo_84_p16 n2) (b : Int) (pw (tpk (K k) - 1)) 0 ((k + 1 : Nat) : Int) (mop s) τ) else (f_M_reckonsTo_84_p203 (f_M_reckonsTo_84_p16 n2) (b : Int) (pw (tpk (K k) - 1)) 0 ((k + 1 : Nat) : Int) (mop s) τ)))))))) := by
    obtain ⟨-, -, e103, v0, v1⟩ := hC k (s, v) hcs
    dsimp only at e103 v0 v1
    have mr := mop_r s
    have mr' : 0 ≤ mop s ∧ mop s ≤ 14 := ⟨mr.1, Int.le_trans mr.2 (by decide)⟩
    have ed : pDiv (τ 103 k) 1048576 = mop s := (congrArg (fun z => pDiv z 1048576) e103).trans (unit_div mr' ⟨v0, v1⟩)
    have er : pRem (τ 103 k) 1048576 = v := (congrArg (fun z => pRem z 1048576) e103).trans (unit_rem mr' ⟨v0, v1⟩)
    show (if (b : Int) ≤ (k : Int) then _ else _) = _
    rw [if_neg nb, if_pos g2, if_pos g2, Int.toNat_natCast, ed, er, eK]
  have cE : f_Law_reckon_16_p8 (n1 + 1) (b : Int) (tpk (K k)) nx (k : Int) σ = (if s = 48 then (f_Law_reckon_16_p55 (f_Law_reckon_16_p8 n1) (b : Int) (tpk (K k)) nx (k : Int) s σ) else (if s = 97 then (f_Law_reckon_16_p55 (f_Law_reckon_16_p8 n1) (b : Int) (tpk (K k)) nx (k : Int) s σ) else (if 1 ≤ tpk (K k) then (if s = 33 then (if 0 ≤ (pw (tpk (K k) - 1)) ∧ (pw (tpk (K k) - 1)) < 64 then (if 0 ≤ (pw (tpk (K k) - 1)) ∧ (pw (tpk (K k) - 1)) < 64 then (f_Law_reckon_16_p8 n1 (b : Int) (tpk (K k)) nx ((k + 1 : Nat) : Int) (pU σ 23 ((pw (tpk (K k) - 1)).toNat) (pw (1 - (σ 23 (pw (tpk (K k) - 1)).toNat))))) else none) else none) else (if s = 38 then (f_Law_reckon_16_p153 (f_Law_reckon_16_p8 n1) (b : Int) (tpk (K k)) nx (k : Int) s σ) else (if s = 124 then (f_Law_reckon_16_p153 (f_Law_reckon_16_p8 n1) (b : Int) (tpk (K k)) nx (k : Int) s σ) else (if tpk (K k) < 2 then (some (0, σ)) else (if 0 ≤ (pw (tpk (K k) - 1)) ∧ (pw (tpk (K k) - 1)) < 64 then (if (σ 23 (pw (tpk (K k) - 1)).toNat) = 0 then (if s = 47 then (some (0, σ)) else (if s = 37 then (some (0, σ)) else (f_Law_reckon_16_p234 (f_Law_reckon_16_p8 n1) (b : Int) (tpk (K k)) nx (k : Int) s σ))) else (f_Law_reckon_16_p234 (f_Law_reckon_16_p8 n1) (b : Int) (tpk (K k)) nx (k : Int) s σ)) else none))))) else (some (0, σ))))) := by
    show (if (b : Int) ≤ (k : Int) then _ else _) = _
    rw [if_neg nb, if_neg n240, if_pos hnx, if_pos g, Int.toNat_natCast, e20, eK]
  rw [cE, mE]
  clear cE mE
  unfold OKc at ho
  rcases ho with ⟨hs, p1, p2, p3⟩ | ⟨hs, p1, p2, p3⟩ | ⟨hs, p1, p3⟩ | ⟨hs, p1, p3⟩ | ⟨hs, p1, p2, p3, p4, p5⟩
  · obtain ⟨h, hh⟩ : ∃ h : Nat, K k = (h : Int) := ⟨(K k).toNat, by omega⟩
    rw [tpk_n hh]
    rcases hs with rfl | ⟨rfl, q1, q2⟩
    · rw [if_pos rfl, if_pos (show mop 48 = 0 from rfl)]
      unfold f_Law_reckon_16_p55 f_M_reckonsTo_84_p63
      rw [if_pos (by omega), if_pos rfl, if_pos g, if_pos (by omega), if_pos (show mop 48 = 0 from rfl), if_pos (by omega), Int.toNat_natCast, Int.toNat_natCast, e21, eK, pw_s (show h < 240 by omega) (by decide)]
      exact push h v hh (by omega) p3
    · rw [if_neg (by decide), if_pos rfl, if_neg (show ¬ mop 97 = 0 by decide), if_pos (show mop 97 = 1 from rfl)]
      unfold f_Law_reckon_16_p55 f_M_reckonsTo_84_p63
      rw [if_pos (by omega), if_neg (by decide), if_pos g, Int.toNat_natCast, Int.toNat_natCast, e21, if_pos ⟨q1, q2⟩, if_pos (by omega), if_neg (show ¬ mop 97 = 0 by decide), if_pos ⟨q1, q2⟩, if_pos (by omega), eK, pw_s (show h < 240 by omega) (by decide), hF v.toNat (by omega)]
      exact push h _ hh (by omega) p3
  · obtain ⟨h, hh⟩ : ∃ h : Nat, K k = ((h + 2 : Nat) : Int) := ⟨(K k - 2).toNat, by omega⟩
    have ew : pw (((h + 2 : Nat) : Int) - 1) = ((h + 1 : Nat) : Int) := by rw [pw_id (by omega) (by omega)]; omega
    have x1 : σ 23 h = τ 108 h := hS.1 h (by rw [tpk_n hh]; omega)
    have y1 : σ 23 (h + 1) = τ 108 (h + 1) := hS.1 (h + 1) (by rw [tpk_n hh]; omega)
    rw [tpk_n hh, ew]
    have n48 : s ≠ 48 ∧ s ≠ 97 ∧ s ≠ 33 ∧ s ≠ 38 ∧ s ≠ 124 := by omega
    rw [if_neg n48.1, if_neg n48.2.1, if_pos (by omega), if_neg n48.2.2.1, if_neg n48.2.2.2.1, if_neg n48.2.2.2.2, if_neg (show ¬ ((h + 2 : Nat) : Int) < 2 by omega), if_pos (by omega), Int.toNat_natCast]
    have nm : mop s ≠ 0 ∧ mop s ≠ 1 ∧ mop s ≠ 10 ∧ mop s ≠ 11 ∧ mop s ≠ 12 := by
      rcases hs with rfl | rfl | rfl | rfl | rfl <;> decide
    rw [if_neg nm.1, if_neg nm.2.1, if_neg nm.2.2.1, if_neg nm.2.2.2.1, if_neg nm.2.2.2.2]
    have good : (s = 43 ∨ s = 45 ∨ s = 42 ∨ ((s = 47 ∨ s = 37) ∧ σ 23 (h + 1) ≠ 0)) → RG (f_Law_reckon_16_p234 (f_Law_reckon_16_p8 n1) (b : Int) ((h + 2 : Nat) : Int) nx (k : Int) s σ) (f_M_reckonsTo_84_p203 (f_M_reckonsTo_84_p16 n2) (b : Int) ((h + 1 : Nat) : Int) 0 ((k + 1 : Nat) : Int) (mop s) τ) σ τ (K b) := fun hq => by
      obtain ⟨z, z1, z2⟩ := jr_1 (x := σ 23 h) hq σ τ
      rw [x1, y1] at z2
      rw [c_234 k240 (by omega) z1, m_203 (by omega) z2]
      exact join h z hh (by omega) (Or.inl (by omega))
    have stop : RG (some (0, σ)) (some (0, τ)) σ τ (K b) := ⟨0, σ, τ, rfl, rfl, FR.rf _ _, FR.rf _ _, fun _ => Or.inl rfl⟩
    by_cases hdv : s = 47 ∨ s = 37
    · have m192 : f_M_reckonsTo_84_p192 (f_M_reckonsTo_84_p16 n2) (b : Int) ((h + 1 : Nat) : Int) 0 ((k + 1 : Nat) : Int) (mop s) τ = (if τ 108 (h + 1) = 0 then some (0, τ) else f_M_reckonsTo_84_p203 (f_M_reckonsTo_84_p16 n2) (b : Int) ((h + 1 : Nat) : Int) 0 ((k + 1 : Nat) : Int) (mop s) τ) := by
        unfold f_M_reckonsTo_84_p192
        rw [if_pos (by omega), Int.toNat_natCast]
      have mm : (if mop s = 5 then f_M_reckonsTo_84_p192 (f_M_reckonsTo_84_p16 n2) (b : Int) ((h + 1 : Nat) : Int) 0 ((k + 1 : Nat) : Int) (mop s) τ else if mop s = 6 then f_M_reckonsTo_84_p192 (f_M_reckonsTo_84_p16 n2) (b : Int) ((h + 1 : Nat) : Int) 0 ((k + 1 : Nat) : Int) (mop s) τ else f_M_reckonsTo_84_p203 (f_M_reckonsTo_84_p16 n2) (b : Int) ((h + 1 : Nat) : Int) 0 ((k + 1 : Nat) : Int) (mop s) τ) = f_M_reckonsTo_84_p192 (f_M_reckonsTo_84_p16 n2) (b : Int) ((h + 1 : Nat) : Int) 0 ((k + 1 : Nat) : Int) (mop s) τ := by
        rcases hdv with e | e
        · rw [if_pos (by rw [e]; decide)]
        · rw [if_neg (by rw [e]; decide), if_pos (by rw [e]; decide)]
      rw [mm, m192, ← y1]
      by_cases hy : σ 23 (h + 1) = 0
      · rw [if_pos hy, if_pos hy]
        rcases hdv with e | e
        · rw [if_pos e]; exact stop
        · rw [if_neg (by omega), if_pos e]; exact stop
      · rw [if_neg hy, if_neg hy]
        exact good (by omega)
    · have n5 : mop s ≠ 5 ∧ mop s ≠ 6 := by
        rcases hs with rfl | rfl | rfl | rfl | rfl
        · decide
        · decide
        · decide
        · omega
        · omega
      rw [if_neg n5.1, if_neg n5.2, if_neg (show ¬ s = 47 by omega), if_neg (show ¬ s = 37 by omega)]
      have hq := good (by omega)
      by_cases hy : σ 23 (h + 1) = 0
      · rw [if_pos hy]; exact hq
      · rw [if_neg hy]; exact hq
  · have hh : K k = ((0 + 2 : Nat) : Int) := p1
    have ew : pw (((0 + 2 : Nat) : Int) - 1) = ((0 + 1 : Nat) : Int) := by rw [pw_id (by omega) (by omega)]; omega
    have x1 : σ 23 0 = τ 108 0 := hS.1 0 (by rw [tpk_n hh]; omega)
    have y1 : σ 23 (0 + 1) = τ 108 (0 + 1) := hS.1 (0 + 1) (by rw [tpk_n hh]; omega)
    rw [tpk_n hh, ew]
    have n48 : s ≠ 48 ∧ s ≠ 97 ∧ s ≠ 33 ∧ s ≠ 38 ∧ s ≠ 124 ∧ s ≠ 47 ∧ s ≠ 37 := by omega
    rw [if_neg n48.1, if_neg n48.2.1, if_pos (by omega), if_neg n48.2.2.1, if_neg n48.2.2.2.1, if_neg n48.2.2.2.2.1, if_neg (show ¬ ((0 + 2 : Nat) : Int) < 2 by omega), if_pos (by omega), Int.toNat_natCast, if_neg n48.2.2.2.2.2.1, if_neg n48.2.2.2.2.2.2]
    have nm : mop s ≠ 0 ∧ mop s ≠ 1 ∧ mop s ≠ 10 ∧ mop s ≠ 11 ∧ mop s ≠ 12 ∧ mop s ≠ 5 ∧ mop s ≠ 6 := by
      rcases hs with rfl | rfl | rfl <;> decide
    rw [if_neg nm.1, if_neg nm.2.1, if_neg nm.2.2.1, if_neg nm.2.2.2.1, if_neg nm.2.2.2.2.1, if_neg nm.2.2.2.2.2.1, if_neg nm.2.2.2.2.2.2]
    obtain ⟨z, z1, z2, z3⟩ := jr_2 (x := σ 23 0) (y := σ 23 (0 + 1)) hs σ τ
    rw [x1, y1] at z2
    have hq := join 0 z hh (by omega) (Or.inr ⟨rfl, p3, z3⟩)
    have e1 := c_234 (F := f_Law_reckon_16_p8 n1) (b := (b : Int)) (nx := nx) (g := 0) k240 (by omega) z1
    rw [m_203 (by omega) z2, e1]
    by_cases hy : σ 23 (0 + 1) = 0
    · rw [if_pos hy]; exact hq
    · rw [if_neg hy]; exact hq
  · subst hs
    have x1 : σ 23 0 = τ 108 0 := hS.1 0 (by rw [tpk_b p1]; decide)
    have x2 := hS.2 p1
    have ew : pw (((1 : Nat) : Int) - 1) = ((0 : Nat) : Int) := by decide
    rw [tpk_b p1, ew, if_neg (by decide), if_neg (by decide), if_pos (by decide), if_pos rfl, if_pos (by decide), if_pos (by decide), if_neg (show ¬ mop 33 = 0 by decide), if_neg (show ¬ mop 33 = 1 by decide), if_pos (show mop 33 = 10 from rfl), if_pos (by decide), if_pos (by decide), Int.toNat_natCast, ← x1]
    have f1 : FR P23 σ (pU σ 23 0 (pw (1 - σ 23 0))) := FR.u rfl
    have f2 : FR Q108 τ (pU τ 108 0 (pw (1 - σ 23 0))) := FR.u rfl
    have hz : pw (1 - σ 23 0) = 0 ∨ pw (1 - σ 23 0) = 1 := by
      rcases x2 with e | e
      · rw [e]; exact Or.inr (by decide)
      · rw [e]; exact Or.inl (by decide)
    have r := ih (d - 1) (by omega) (k + 1) n1 n2 nx _ _ (by omega) (by omega) (by omega) (by omega) nx1 (hC.mv f1 f2) (hF.mv f1 f2) ⟨fun y hy => by
      rw [tpk_b p3] at hy
      have : y = 0 := by omega
      rw [this, pU_s, pU_s], fun _ => by rw [pU_s]; exact hz⟩
    rw [tpk_b p3] at r
    exact r.mv f1 f2
  · have x1 : σ 23 0 = τ 108 0 := hS.1 0 (by rw [tpk_b p1]; decide)
    have x2 := hS.2 p1
    have ew : pw (((1 : Nat) : Int) - 1) = ((0 : Nat) : Int) := by decide
    have ew2 : pw (((1 : Nat) : Int) + -1) = ((0 : Nat) : Int) := by decide
    obtain ⟨vn, rfl⟩ : ∃ w : Nat, v = (w : Int) := ⟨v.toNat, by omega⟩
    rw [Int.toNat_natCast] at p5
    -- stays, the stack empty
    have fall : RG (f_Law_reckon_16_p8 n1 (b : Int) ((0 : Nat) : Int) nx ((k + 1 : Nat) : Int) σ) (f_M_reckonsTo_84_p16 n2 (b : Int) ((0 : Nat) : Int) 0 ((k + 1 : Nat) : Int) τ) σ τ (K b) := by
      have r := ih (d - 1) (by omega) (k + 1) n1 n2 nx σ τ (by omega) (by omega) (by omega) (by omega) nx1 hC hF ⟨fun y hy => by rw [tpk_n (h := 0) p2] at hy; omega, fun q => by omega⟩
      rw [tpk_n (h := 0) p2] at r
      exact r
    have jump : RG (f_Law_reckon_16_p8 n1 (b : Int) ((1 : Nat) : Int) (vn : Int) ((k + 1 : Nat) : Int) σ) (f_M_reckonsTo_84_p16 n2 (b : Int) ((1 : Nat) : Int) 0 (vn : Int) τ) σ τ (K b) := by
      have r := ih (b - vn) (by omega) vn (n1 - (vn - (k + 1))) n2 (vn : Int) σ τ (by omega) (by omega) (by omega) (by omega) (Int.le_refl _) hC hF ⟨fun y hy => by
        rw [tpk_b p5] at hy
        have : y = 0 := by omega
        rw [this]; exact x1, fun _ => x2⟩
      rw [tpk_b p5] at r
      have e := rk_sk (b := b) (by omega) (t := ((1 : Nat) : Int)) (v := vn) (by omega) (σ := σ) (vn - (k + 1)) (k + 1) (n1 - (vn - (k + 1))) (by omega)
      rw [show n1 - (vn - (k + 1)) + (vn - (k + 1)) = n1 by omega] at e
      rw [e]
      exact r
    have pk : pw (0 + (vn : Int)) = (vn : Int) := by rw [pw_id (by omega) (by omega)]; omega
    rw [tpk_b p1, ew]
    rcases hs with rfl | rfl
    · rw [if_neg (by decide), if_neg (by decide), if_pos (by decide), if_neg (by decide), if_pos rfl, if_neg (show ¬ mop 38 = 0 by decide), if_neg (show ¬ mop 38 = 1 by decide), if_neg (show ¬ mop 38 = 10 by decide), if_pos (show mop 38 = 11 from rfl)]
      rcases x2 with e | e
      · have e2 : τ 108 0 = 0 := x1.symm.trans e
        have cX : f_Law_reckon_16_p153 (f_Law_reckon_16_p8 n1) (b : Int) ((1 : Nat) : Int) nx (k : Int) 38 σ = f_Law_reckon_16_p8 n1 (b : Int) ((1 : Nat) : Int) (vn : Int) ((k + 1 : Nat) : Int) σ := by
          unfold f_Law_reckon_16_p153
          rw [ew, if_pos (show (0 : Int) ≤ ((0 : Nat) : Int) ∧ ((0 : Nat) : Int) < 64 by decide), Int.toNat_natCast, if_pos e]
          unfold f_Law_reckon_16_p169
          rw [if_neg (by decide)]
          unfold f_Law_reckon_16_p181
          rw [if_pos rfl, if_pos g, Int.toNat_natCast, e21, eK]
        have mX : f_M_reckonsTo_84_p135 (f_M_reckonsTo_84_p16 n2) (b : Int) ((1 : Nat) : Int) 0 ((k + 1 : Nat) : Int) (mop 38) (vn : Int) τ = f_M_reckonsTo_84_p16 n2 (b : Int) ((1 : Nat) : Int) 0 (vn : Int) τ := by
          unfold f_M_reckonsTo_84_p135
          rw [ew, if_pos (show (0 : Int) ≤ ((0 : Nat) : Int) ∧ ((0 : Nat) : Int) < 260 by decide), if_neg (show ¬ mop 38 = 12 by decide), Int.toNat_natCast]
          unfold f_M_reckonsTo_84_p155
          rw [e2, if_pos rfl, pk]
        rw [cX, mX]
        exact jump
      · have e2 : τ 108 0 = 1 := x1.symm.trans e
        have cX : f_Law_reckon_16_p153 (f_Law_reckon_16_p8 n1) (b : Int) ((1 : Nat) : Int) nx (k : Int) 38 σ = f_Law_reckon_16_p8 n1 (b : Int) ((0 : Nat) : Int) nx ((k + 1 : Nat) : Int) σ := by
          unfold f_Law_reckon_16_p153
          rw [ew, if_pos (show (0 : Int) ≤ ((0 : Nat) : Int) ∧ ((0 : Nat) : Int) < 64 by decide), Int.toNat_natCast, if_neg (show ¬ σ 23 0 = 0 by rw [e]; decide)]
          unfold f_Law_reckon_16_p169
          rw [if_neg (by decide)]
          unfold f_Law_reckon_16_p181
          rw [if_neg (by decide), ew2, eK]
        have mX : f_M_reckonsTo_84_p135 (f_M_reckonsTo_84_p16 n2) (b : Int) ((1 : Nat) : Int) 0 ((k + 1 : Nat) : Int) (mop 38) (vn : Int) τ = f_M_reckonsTo_84_p16 n2 (b : Int) ((0 : Nat) : Int) 0 ((k + 1 : Nat) : Int) τ := by
          unfold f_M_reckonsTo_84_p135
          rw [ew, if_pos (show (0 : Int) ≤ ((0 : Nat) : Int) ∧ ((0 : Nat) : Int) < 260 by decide), if_neg (show ¬ mop 38 = 12 by decide), Int.toNat_natCast]
          unfold f_M_reckonsTo_84_p155
          rw [e2, if_neg (by decide), ew]
        rw [cX, mX]
        exact fall
    · rw [if_neg (by decide), if_neg (by decide), if_pos (by decide), if_neg (by decide), if_neg (by decide), if_pos rfl, if_neg (show ¬ mop 124 = 0 by decide), if_neg (show ¬ mop 124 = 1 by decide), if_neg (show ¬ mop 124 = 10 by decide), if_neg (show ¬ mop 124 = 11 by decide), if_pos (show mop 124 = 12 from rfl)]
      rcases x2 with e | e
      · have e2 : τ 108 0 = 0 := x1.symm.trans e
        have cX : f_Law_reckon_16_p153 (f_Law_reckon_16_p8 n1) (b : Int) ((1 : Nat) : Int) nx (k : Int) 124 σ = f_Law_reckon_16_p8 n1 (b : Int) ((0 : Nat) : Int) nx ((k + 1 : Nat) : Int) σ := by
          unfold f_Law_reckon_16_p153
          rw [ew, if_pos (show (0 : Int) ≤ ((0 : Nat) : Int) ∧ ((0 : Nat) : Int) < 64 by decide), Int.toNat_natCast, if_pos e]
          unfold f_Law_reckon_16_p169
          rw [if_pos rfl]
          unfold f_Law_reckon_16_p181
          rw [if_neg (by decide), ew2, eK]
        have mX : f_M_reckonsTo_84_p135 (f_M_reckonsTo_84_p16 n2) (b : Int) ((1 : Nat) : Int) 0 ((k + 1 : Nat) : Int) (mop 124) (vn : Int) τ = f_M_reckonsTo_84_p16 n2 (b : Int) ((0 : Nat) : Int) 0 ((k + 1 : Nat) : Int) τ := by
          unfold f_M_reckonsTo_84_p135
          rw [ew, if_pos (show (0 : Int) ≤ ((0 : Nat) : Int) ∧ ((0 : Nat) : Int) < 260 by decide), if_pos (show mop 124 = 12 from rfl), Int.toNat_natCast]
          unfold f_M_reckonsTo_84_p155
          rw [e2, if_neg (by decide), ew]
        rw [cX, mX]
        exact fall
      · have e2 : τ 108 0 = 1 := x1.symm.trans e
        have cX : f_Law_reckon_16_p153 (f_Law_reckon_16_p8 n1) (b : Int) ((1 : Nat) : Int) nx (k : Int) 124 σ = f_Law_reckon_16_p8 n1 (b : Int) ((1 : Nat) : Int) (vn : Int) ((k + 1 : Nat) : Int) σ := by
          unfold f_Law_reckon_16_p153
          rw [ew, if_pos (show (0 : Int) ≤ ((0 : Nat) : Int) ∧ ((0 : Nat) : Int) < 64 by decide), Int.toNat_natCast, if_neg (show ¬ σ 23 0 = 0 by rw [e]; decide)]
          unfold f_Law_reckon_16_p169
          rw [if_pos rfl]
          unfold f_Law_reckon_16_p181
          rw [if_pos rfl, if_pos g, Int.toNat_natCast, e21, eK]
        have mX : f_M_reckonsTo_84_p135 (f_M_reckonsTo_84_p16 n2) (b : Int) ((1 : Nat) : Int) 0 ((k + 1 : Nat) : Int) (mop 124) (vn : Int) τ = f_M_reckonsTo_84_p16 n2 (b : Int) ((1 : Nat) : Int) 0 (vn : Int) τ := by
          unfold f_M_reckonsTo_84_p135
          rw [ew, if_pos (show (0 : Int) ≤ ((0 : Nat) : Int) ∧ ((0 : Nat) : Int) < 260 by decide), if_pos (show mop 124 = 12 from rfl), Int.toNat_natCast]
          unfold f_M_reckonsTo_84_p155
          rw [e2, if_pos rfl, pk]
        rw [cX, mX]
        exact jump
/-- codes come to the same in both -/
theorem rk_ls {c : Cd} {K : Nat → Int} {a b : Nat} (hc : c.length ≤ 240) (hb : b ≤ c.length) (hab : a ≤ b) (hW : WT c K a b) (h0 : K a = 0) (hKb : K b = -1 ∨ K b = 1) {σ τ : pS} (hC : CDs c σ τ) (hF : FCs σ τ) : RG (f_Law_reckon_16 (a : Int) (b : Int) σ) (f_M_reckonsTo_84 (a : Int) (b : Int) τ) σ τ (K b) := by
  have r := rk_lp hc hb hW hKb (b - a) a 4096 4096 (a : Int) σ τ (by omega) (Nat.le_refl _) (by omega) (by omega) (Int.le_refl _) hC hF ⟨fun y hy => by rw [tpk_n (h := 0) h0] at hy; omega, fun q => by omega⟩
  rw [tpk_n (h := 0) h0] at r
  have e : pw (260 * (pDiv (a : Int) 260)) = 0 := by
    rw [pDiv_eq (by omega) (by omega) (by decide) (by decide), Int.tdiv_eq_ediv_of_nonneg (by omega), show (a : Int) / 260 = 0 by omega]
    decide
  unfold f_M_reckonsTo_84
  rw [e]
  exact r
