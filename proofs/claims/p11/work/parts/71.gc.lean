theorem bt2 (x : BitVec 32) (s : Nat) (hs : s ≤ 24) : (x.sshiftRight s) &&& 255#32 = (x >>> s) &&& 255#32 := by
  apply BitVec.eq_of_getLsbD_eq
  intro i hi
  have h255 : (255#32).getLsbD i = decide (i < 8) := by
    revert i
    decide
  simp only [BitVec.getLsbD_and, h255]
  by_cases h : i < 8
  · simp only [h, decide_true, Bool.and_true]
    rw [BitVec.getLsbD_sshiftRight, BitVec.getLsbD_ushiftRight]
    have h1 : ¬ 32 ≤ i := by omega
    have h2 : s + i < 32 := by omega
    simp [h2, h1]
  · simp [h]
theorem bs_8 (s : Int) (n : Nat) (hn : n ≤ 24) (hs : ∀ x : Int32, (x >>> (Int32.ofInt s &&& 31)).toBitVec = x.toBitVec.sshiftRight n) (hu : ∀ x : Int32, ((x.toUInt32 >>> ((Int32.ofInt s).toUInt32 &&& Int32.toUInt32 31)).toInt32).toBitVec = x.toBitVec >>> n) (a : Int) : pAnd (pShr a s) 255 = pAnd (pUsh a s) 255 := by
  unfold pAnd pShr pUsh pO
  simp only [Int32.ofInt_toInt]
  congr 1
  apply Int32.toBitVec_inj.mp
  show (Int32.ofInt a >>> (Int32.ofInt s &&& 31)).toBitVec &&& 255#32 = (((Int32.ofInt a).toUInt32 >>> ((Int32.ofInt s).toUInt32 &&& Int32.toUInt32 31)).toInt32).toBitVec &&& 255#32
  rw [hs, hu]
  exact bt2 _ _ hn
theorem bs_k (a : Int) {k : Nat} (hk : k ≤ 3) : pAnd (pShr a (8 * (k : Int))) 255 = pAnd (pUsh a (8 * (k : Int))) 255 := by
  match k, hk with
  | 0, _ => exact bs_8 0 0 (by omega) (fun _ => rfl) (fun _ => rfl) a
  | 1, _ => exact bs_8 8 8 (by omega) (fun _ => rfl) (fun _ => rfl) a
  | 2, _ => exact bs_8 16 16 (by omega) (fun _ => rfl) (fun _ => rfl) a
  | 3, _ => exact bs_8 24 24 (by omega) (fun _ => rfl) (fun _ => rfl) a
/-- a byte of a value, by how far -/
theorem bs_p (a p : Int) (h : 0 ≤ p ∧ p < 4) : pAnd (pShr a (pw (8 * p))) 255 = pAnd (pUsh a (pw (8 * p))) 255 := by
  obtain ⟨k, rfl⟩ : ∃ k : Nat, p = (k : Int) := ⟨p.toNat, by omega⟩
  rw [pw_id (by omega) (by omega)]
  exact bs_k a (by omega)
/-- the youngest store below that covers a byte -/
def yc (σ : pS) (a : Int) : Nat → Int
  | 0 => -1
  | k + 1 => if σ 5 k = 3 ∧ σ 39 k = 2 ∧ pAnd (pw (a - σ 37 k)) 63 < σ 7 k then (k : Int) else yc σ a k
theorem yc_r (σ : pS) (a : Int) : ∀ k : Nat, yc σ a k = -1 ∨ ∃ j : Nat, yc σ a k = (j : Int) ∧ j < k ∧ σ 5 j = 3 ∧ σ 39 j = 2 ∧ pAnd (pw (a - σ 37 j)) 63 < σ 7 j
  | 0 => Or.inl rfl
  | k + 1 => by
    unfold yc
    by_cases h : σ 5 k = 3 ∧ σ 39 k = 2 ∧ pAnd (pw (a - σ 37 k)) 63 < σ 7 k
    · rw [if_pos h]
      exact Or.inr ⟨k, rfl, by omega, h⟩
    · rw [if_neg h]
      rcases yc_r σ a k with z | ⟨j, z1, z2, z3⟩
      · exact Or.inl z
      · exact Or.inr ⟨j, z1, by omega, z3⟩
theorem yc_cg {σ σ' : pS} {a : Int} : ∀ k : Nat, (∀ j, j < k → σ' 5 j = σ 5 j ∧ σ' 39 j = σ 39 j ∧ σ' 37 j = σ 37 j ∧ σ' 7 j = σ 7 j) → yc σ' a k = yc σ a k
  | 0, _ => rfl
  | k + 1, h => by
    unfold yc
    obtain ⟨h1, h2, h3, h4⟩ := h k (by omega)
    rw [h1, h2, h3, h4, yc_cg k (fun j hj => h j (by omega))]
theorem c_yc {σ : pS} {a : Int} : ∀ (k fu : Nat), k ≤ 20 → k < fu → f_Mach_youngestCovering_3_p4 fu a ((k : Int) - 1) σ = some (yc σ a k, σ)
  | 0, fu, hk, hf => by
    obtain ⟨n, rfl⟩ : ∃ n, fu = n + 1 := ⟨fu - 1, by omega⟩
    show (if ((0 : Nat) : Int) - 1 < 0 then _ else _) = _
    rw [if_pos (by omega)]
    rfl
  | k + 1, fu, hk, hf => by
    obtain ⟨n, rfl⟩ : ∃ n, fu = n + 1 := ⟨fu - 1, by omega⟩
    have e : ((k + 1 : Nat) : Int) - 1 = (k : Int) := by omega
    have g : (0 : Int) ≤ (k : Int) ∧ (k : Int) < 20 := by omega
    have ih := c_yc (σ := σ) (a := a) k n (by omega) (by omega)
    rw [e]
    show (if (k : Int) < 0 then _ else _) = _
    rw [if_neg (by omega)]
    simp only [if_pos g, Int.toNat_natCast, c_cov, Option.bind_some, pw_p (show k < 20 by omega) (show 20 ≤ 100000 by decide)]
    unfold yc
    by_cases h1 : σ 5 k = 3
    · rw [if_pos h1]
      by_cases h2 : σ 39 k = 2
      · rw [if_pos h2]
        by_cases h3 : σ 7 k ≤ pAnd (pw (a - σ 37 k)) 63
        · simp only [if_pos h3]
          rw [if_pos trivial, if_neg (fun z => absurd z.2.2 (Int.not_lt.mpr h3))]
          exact ih
        · simp only [if_neg h3]
          rw [if_neg (by decide), if_pos ⟨h1, h2, Int.not_le.mp h3⟩]
      · rw [if_neg h2, if_neg (fun z => h2 z.2.1)]
        exact ih
    · rw [if_neg h1, if_neg (fun z => h1 z.1)]
      exact ih
/-- what both know of the ops below i -/
def BL (i : Nat) (σ τ : pS) : Prop := ∀ k, k < i → τ 88 k = σ 5 k ∧ τ 118 k = σ 39 k ∧ (σ 5 k = 3 → τ 93 k = σ 7 k ∧ σ 7 k ≤ 4) ∧ (σ 5 k = 3 → σ 39 k = 2 → τ 121 k = σ 37 k ∧ τ 120 k = σ 36 k)
theorem m_l37 {σ τ : pS} {i : Nat} (hi : i ≤ 20) (hB : BL i σ τ) {K : Int → Int → pS → Option (Int × pS)} {e a : Int} : ∀ (d k n : Nat), k + d = i → f_M_loads_84_p37 K (d + n + 1) (i : Int) e a (yc σ a k) (k : Int) τ = f_M_loads_84_p37 K (n + 1) (i : Int) e a (yc σ a i) (i : Int) τ
  | 0, k, n, hk => by
    have : k = i := by omega
    rw [this, Nat.zero_add]
  | d + 1, k, n, hk => by
    have g : (0 : Int) ≤ (k : Int) ∧ (k : Int) < 20 := by omega
    have ih := m_l37 hi hB (K := K) (e := e) (a := a) d (k + 1) n (by omega)
    rw [show d + 1 + n + 1 = (d + n + 1) + 1 by omega]
    refine Eq.trans ?_ ih
    obtain ⟨b1, b2, b3, b4⟩ := hB k (by omega)
    show (if (i : Int) ≤ (k : Int) then _ else _) = _
    rw [if_neg (by omega)]
    simp only [if_pos g, Int.toNat_natCast, m_cov (show k < 20 by omega), Option.bind_some, pw_s (show k < 20 by omega) (show 20 ≤ 100000 by decide), b1, b2]
    conv => rhs; unfold yc
    by_cases h1 : σ 5 k = 3
    · rw [if_pos h1]
      by_cases h2 : σ 39 k = 2
      · rw [if_pos h2, (b3 h1).1, (b4 h1 h2).1]
        by_cases h3 : σ 7 k ≤ pAnd (pw (a - σ 37 k)) 63
        · simp only [if_pos h3]
          rw [if_pos trivial, if_neg (fun z => absurd z.2.2 (Int.not_lt.mpr h3))]
        · simp only [if_neg h3]
          rw [if_neg (by decide), if_pos ⟨h1, h2, Int.not_le.mp h3⟩]
      · rw [if_neg h2, if_neg (fun z => h2 z.2.1)]
    · rw [if_neg h1, if_neg (fun z => h1 z.1)]
def P_tb (i k x : Nat) : Prop := (k = 36 ∧ x = i) ∨ (k = 38 ∧ 4 * i ≤ x ∧ x < 4 * i + 4)
def Q_tb (i k x : Nat) : Prop := (k = 120 ∧ x = i) ∨ (k = 124 ∧ 4 * i ≤ x ∧ x < 4 * i + 4)
theorem BL.fr {i : Nat} {σ τ σ' τ' : pS} (h : BL i σ τ) (h1 : ∀ k x, (k = 5 ∨ k = 7 ∨ k = 39 ∨ k = 36 ∨ k = 37) → x < i → σ' k x = σ k x) (h2 : ∀ k x, (k = 88 ∨ k = 93 ∨ k = 118 ∨ k = 120 ∨ k = 121) → x < i → τ' k x = τ k x) : BL i σ' τ' := by
  intro k hk
  rw [h1 5 k (by omega) hk, h1 7 k (by omega) hk, h1 39 k (by omega) hk, h1 36 k (by omega) hk, h1 37 k (by omega) hk, h2 88 k (by omega) hk, h2 93 k (by omega) hk, h2 118 k (by omega) hk, h2 120 k (by omega) hk, h2 121 k (by omega) hk]
  exact h k hk
/-- a load takes its bytes: the same in both -/
theorem tb_lp {i s : Nat} (hi : i < 20) (hs4 : s ≤ 4) : ∀ (d e fu1 fu2 : Nat) (σ τ : pS) (v : Int), e + d = s → d < fu1 → d < fu2 → σ 7 i = (s : Int) → τ 93 i = (s : Int) → τ 121 i = σ 37 i → BL i σ τ → (∀ x, x < 64 → σ 26 x = τ 127 x) → τ 120 i = v → (∀ q : Nat, q < e → σ 38 (4 * i + q) = τ 124 (4 * i + q) ∧ (σ 38 (4 * i + q) = -1 ∨ ∃ j : Nat, σ 38 (4 * i + q) = (j : Int) ∧ j < i ∧ σ 5 j = 3)) →
    ∃ σ' τ' v', f_Mach_takeBytes_3_p4 fu1 (i : Int) v (e : Int) σ = some (0, pU σ' 36 i v') ∧ f_M_loads_84_p9 fu2 (i : Int) (e : Int) τ = some (0, τ') ∧ τ' 120 i = v' ∧ (∀ q : Nat, q < s → σ' 38 (4 * i + q) = τ' 124 (4 * i + q) ∧ (σ' 38 (4 * i + q) = -1 ∨ ∃ j : Nat, σ' 38 (4 * i + q) = (j : Int) ∧ j < i ∧ σ 5 j = 3)) ∧ FR (P_tb i) σ σ' ∧ FR (Q_tb i) τ τ'
  | 0, e, fu1, fu2, σ, τ, v, he, h1, h2, s1, s2, hp, hB, hm, hv, hg => by
    obtain ⟨n1, rfl⟩ : ∃ n, fu1 = n + 1 := ⟨fu1 - 1, by omega⟩
    obtain ⟨n2, rfl⟩ : ∃ n, fu2 = n + 1 := ⟨fu2 - 1, by omega⟩
    have g : (0 : Int) ≤ (i : Int) ∧ (i : Int) < 20 := by omega
    refine ⟨σ, τ, v, ?_, ?_, hv, fun q hq => hg q (by omega), FR.rf _ _, FR.rf _ _⟩
    · show (if (0 : Int) ≤ (i : Int) ∧ (i : Int) < 20 then _ else _) = _
      rw [if_pos g, Int.toNat_natCast, s1, if_pos (by omega), if_pos g]
    · show (if (0 : Int) ≤ (i : Int) ∧ (i : Int) < 20 then _ else _) = _
      rw [if_pos g, Int.toNat_natCast, s2, if_pos (by omega)]
  | d + 1, e, fu1, fu2, σ, τ, v, he, h1, h2, s1, s2, hp, hB, hm, hv, hg => by
    obtain ⟨n1, rfl⟩ : ∃ n, fu1 = n + 1 := ⟨fu1 - 1, by omega⟩
    obtain ⟨n2, rfl⟩ : ∃ n, fu2 = n + 1 := ⟨fu2 - 1, by omega⟩
    have g : (0 : Int) ≤ (i : Int) ∧ (i : Int) < 20 := by omega
    have he4 : e < 4 := by omega
    have cn1 : ¬ (s : Int) ≤ (e : Int) := by omega
    have r63 := pAnd_63 (pw (σ 37 i + (e : Int)))
    have r64 : 0 ≤ atk (σ 37 i) e ∧ atk (σ 37 i) e < 64 := r63
    have r65 : (atk (σ 37 i) e).toNat < 64 := by omega
    have ix := ix4 hi he4
    have pws := pw_s he4 (show 4 ≤ 100000 by decide)
    -- the byte itself
    have byte : ∃ b : Int, f_Mach_takeBytes_3_p4 (n1 + 1) (i : Int) v (e : Int) σ = f_Mach_takeBytes_3_p4 n1 (i : Int) (pOr v (pShl b (pw (8 * (e : Int))))) ((e + 1 : Nat) : Int) (pU σ 38 (4 * i + e) (yc σ (atk (σ 37 i) e) i)) ∧ f_M_loads_84_p9 (n2 + 1) (i : Int) (e : Int) τ = f_M_loads_84_p9 n2 (i : Int) ((e + 1 : Nat) : Int) (pU (pU τ 124 (4 * i + e) (yc σ (atk (σ 37 i) e) i)) 120 i (pOr (τ 120 i) (pShl b (pw (8 * (e : Int)))))) := by
      have ey : f_Mach_youngestCovering_3 (i : Int) (pAnd (pw (σ 37 i + (e : Int))) 63) σ = some (yc σ (atk (σ 37 i) e) i, σ) := by
        unfold f_Mach_youngestCovering_3
        rw [pw_id (z := (i : Int) - 1) (by omega) (by omega)]
        exact c_yc (a := atk (σ 37 i) e) i 4096 (by omega) (by omega)
      have eX : f_Mach_takeBytes_3_p4 (n1 + 1) (i : Int) v (e : Int) σ = (if yc σ (atk (σ 37 i) e) i = -1 then (f_Mach_takeBytes_3_p69 (f_Mach_takeBytes_3_p4 n1) (i : Int) v (e : Int) (yc σ (atk (σ 37 i) e) i) (σ 26 (atk (σ 37 i) e).toNat) σ) else ((f_Mach_storedAt_3 (yc σ (atk (σ 37 i) e) i) (atk (σ 37 i) e) σ).bind fun q7 => (f_Mach_takeBytes_3_p69 (f_Mach_takeBytes_3_p4 n1) (i : Int) v (e : Int) (yc σ (atk (σ 37 i) e) i) q7.1 q7.2))) := by
        show (if (0 : Int) ≤ (i : Int) ∧ (i : Int) < 20 then _ else _) = _
        rw [if_pos g, Int.toNat_natCast, s1, if_neg cn1, if_pos g, ey, Option.bind_some, if_pos r63]
        rfl
      have e69 : ∀ (b : Int), f_Mach_takeBytes_3_p69 (f_Mach_takeBytes_3_p4 n1) (i : Int) v (e : Int) (yc σ (atk (σ 37 i) e) i) b σ = f_Mach_takeBytes_3_p4 n1 (i : Int) (pOr v (pShl b (pw (8 * (e : Int))))) ((e + 1 : Nat) : Int) (pU σ 38 (4 * i + e) (yc σ (atk (σ 37 i) e) i)) := fun b => by
        unfold f_Mach_takeBytes_3_p69
        rw [ix.1, if_pos ix.2.2, Int.toNat_natCast, pws]
      have e0 : yc σ (atk (σ 37 i) e) 0 = -1 := rfl
      have el := m_l37 (show i ≤ 20 by omega) hB (K := f_M_loads_84_p9 n2) (e := (e : Int)) (a := atk (σ 37 i) e) i 0 (4095 - i) (by omega)
      rw [show i + (4095 - i) + 1 = 4096 by omega, e0] at el
      have eM : f_M_loads_84_p9 (n2 + 1) (i : Int) (e : Int) τ = f_M_loads_84_p37 (f_M_loads_84_p9 n2) (4095 - i + 1) (i : Int) (e : Int) (atk (σ 37 i) e) (yc σ (atk (σ 37 i) e) i) (i : Int) τ := by
        show (if (0 : Int) ≤ (i : Int) ∧ (i : Int) < 20 then _ else _) = _
        rw [if_pos g, Int.toNat_natCast, s2, if_neg cn1, if_pos g, hp]
        exact el
      have e134 : ∀ (b : Int) (t : pS), f_M_loads_84_p134 (f_M_loads_84_p9 n2) (i : Int) (e : Int) b t = f_M_loads_84_p9 n2 (i : Int) ((e + 1 : Nat) : Int) (pU t 120 i (pOr (t 120 i) (pShl b (pw (8 * (e : Int)))))) := fun b t => by
        unfold f_M_loads_84_p134
        rw [if_pos g, if_pos g, Int.toNat_natCast, pws]
      have eM2 : f_M_loads_84_p37 (f_M_loads_84_p9 n2) (4095 - i + 1) (i : Int) (e : Int) (atk (σ 37 i) e) (yc σ (atk (σ 37 i) e) i) (i : Int) τ = (if yc σ (atk (σ 37 i) e) i = -1 then (f_M_loads_84_p134 (f_M_loads_84_p9 n2) (i : Int) (e : Int) (τ 127 (atk (σ 37 i) e).toNat) (pU τ 124 (4 * i + e) (yc σ (atk (σ 37 i) e) i))) else (if 0 ≤ yc σ (atk (σ 37 i) e) i ∧ yc σ (atk (σ 37 i) e) i < 20 then (if 0 ≤ yc σ (atk (σ 37 i) e) i ∧ yc σ (atk (σ 37 i) e) i < 20 then ((f_M_byteOf (τ 120 (yc σ (atk (σ 37 i) e) i).toNat) (pAnd (pw (atk (σ 37 i) e - (τ 121 (yc σ (atk (σ 37 i) e) i).toNat))) 63) (pU τ 124 (4 * i + e) (yc σ (atk (σ 37 i) e) i))).bind fun q10 => (f_M_loads_84_p134 (f_M_loads_84_p9 n2) (i : Int) (e : Int) q10.1 q10.2)) else none) else none)) := by
        show (if (i : Int) ≤ (i : Int) then _ else _) = _
        rw [if_pos (Int.le_refl _), ix.2.1, if_pos ix.2.2, Int.toNat_natCast, if_pos r64]
      rw [eX, eM, eM2]
      rcases yc_r σ (atk (σ 37 i) e) i with z | ⟨j, z1, z2, z3, z4, z5⟩
      · rw [z]
        rw [if_pos rfl, if_pos rfl, ← z, e69, e134, ← hm (atk (σ 37 i) e).toNat r65, pU_c _ _ _ _ (by decide)]
        exact ⟨_, rfl, rfl⟩
      · have gj : (0 : Int) ≤ (j : Int) ∧ (j : Int) < 20 := by omega
        obtain ⟨b1, b2, b3, b4⟩ := hB j z2
        obtain ⟨b5, b6⟩ := b4 z3 z4
        have r4 : 0 ≤ pAnd (pw (atk (σ 37 i) e - σ 37 j)) 63 ∧ pAnd (pw (atk (σ 37 i) e - σ 37 j)) 63 < 4 := ⟨(pAnd_63 _).1, Int.lt_of_lt_of_le z5 (b3 z3).2⟩
        have es : f_Mach_storedAt_3 (j : Int) (atk (σ 37 i) e) σ = some (pAnd (pUsh (σ 36 j) (pw (8 * (pAnd (pw (atk (σ 37 i) e - σ 37 j)) 63)))) 255, σ) := by
          unfold f_Mach_storedAt_3
          rw [if_pos gj, if_pos gj, Int.toNat_natCast]
        have nj : ¬ ((j : Int) = -1) := by omega
        have e69' := e69 (pAnd (pUsh (σ 36 j) (pw (8 * (pAnd (pw (atk (σ 37 i) e - σ 37 j)) 63)))) 255)
        rw [z1] at e69' ⊢
        rw [if_neg nj, if_neg nj, es, Option.bind_some, if_pos gj, if_pos gj, Int.toNat_natCast]
        unfold f_M_byteOf
        rw [Option.bind_some]
        dsimp only
        rw [e69', e134, b5, b6, bs_p _ _ r4, pU_c _ _ _ _ (by decide)]
        exact ⟨_, rfl, rfl⟩
    obtain ⟨b, k1, k2⟩ := byte
    clear r63 r64 r65 ix pws
    generalize hy : yc σ (atk (σ 37 i) e) i = y at k1 k2
    have ry := yc_r σ (atk (σ 37 i) e) i
    rw [hy] at ry
    have f1 : FR (P_tb i) σ (pU σ 38 (4 * i + e) y) := FR.u (Or.inr ⟨rfl, by omega, by omega⟩)
    have f2 : FR (Q_tb i) τ (pU (pU τ 124 (4 * i + e) y) 120 i (pOr (τ 120 i) (pShl b (pw (8 * (e : Int)))))) := (FR.u (Or.inr ⟨rfl, by omega, by omega⟩)).tr (FR.u (Or.inl ⟨rfl, rfl⟩))
    obtain ⟨σ', τ', v', q1, q2, q3, q4, q5, q6⟩ := tb_lp hi hs4 d (e + 1) n1 n2 (pU σ 38 (4 * i + e) y) (pU (pU τ 124 (4 * i + e) y) 120 i (pOr (τ 120 i) (pShl b (pw (8 * (e : Int)))))) (pOr v (pShl b (pw (8 * (e : Int))))) (by omega) (by omega) (by omega) ((f1.get (by unfold P_tb; omega)).trans s1) ((f2.get (by unfold Q_tb; omega)).trans s2) (by rw [f1.get (k := 37) (by unfold P_tb; omega), f2.get (k := 121) (by unfold Q_tb; omega)]; exact hp) (hB.fr (fun k x hk hx => f1.get (by unfold P_tb; omega)) (fun k x hk hx => f2.get (by unfold Q_tb; omega))) (fun x hx => by rw [f1.get (k := 26) (by unfold P_tb; omega), f2.get (k := 127) (by unfold Q_tb; omega)]; exact hm x hx) (by rw [pU_s, hv]) (fun q hq => by
      rw [pU_c (pU τ 124 (4 * i + e) y) _ _ _ (show (124 : Nat) ≠ 120 by decide)]
      by_cases hqe : q = e
      · rw [hqe, pU_s, pU_s]
        refine ⟨rfl, ?_⟩
        rcases ry with z | ⟨j, z1, z2, z3, -⟩
        · exact Or.inl z
        · exact Or.inr ⟨j, z1, z2, by rw [pU_c _ _ _ _ (by decide)]; exact z3⟩
      · rw [pU_i _ _ _ _ (by omega), pU_i _ _ _ _ (by omega)]
        obtain ⟨w1, w2⟩ := hg q (by omega)
        refine ⟨w1, ?_⟩
        rcases w2 with z | ⟨j, z1, z2, z3⟩
        · exact Or.inl z
        · exact Or.inr ⟨j, z1, z2, by rw [pU_c _ _ _ _ (by decide)]; exact z3⟩)
    refine ⟨σ', τ', v', k1.trans q1, k2.trans q2, q3, fun q hq => ?_, f1.tr q5, f2.tr q6⟩
    obtain ⟨w1, w2⟩ := q4 q hq
    refine ⟨w1, ?_⟩
    rcases w2 with z | ⟨j, z1, z2, z3⟩
    · exact Or.inl z
    · exact Or.inr ⟨j, z1, z2, by rw [pU_c _ _ _ _ (by decide)] at z3; exact z3⟩
