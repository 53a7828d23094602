theorem bt2 (x : BitVec 32) (s : Nat) (hs : s ≤ 24) : (x.sshiftRight s) &&& 255#32 = (x >>> s) &&& 255#32 := by
  apply BitVec.eq_of_getLsbD_eq
  intro i hi
  have h255 : (255#32).getLsbD i = decide (i < 8) := by
    revert i
    decide
  simp only [BitVec.getLsbD_and, h255]
  by_cases h : i < 8
  · simp only [h, decide_true, Bool.and_true]
    rw [BitVec.getLsbD_sshiftRight, BitVec.getLsbD_ushiftRight]
    have h1 : ¬ 32 ≤ i := by omega
    have h2 : s + i < 32 := by omega
    simp [h2, h1]
  · simp [h]
theorem bs_8 (s : Int) (n : Nat) (hn : n ≤ 24) (hs : ∀ x : Int32, (x >>> (Int32.ofInt s &&& 31)).toBitVec = x.toBitVec.sshiftRight n) (hu : ∀ x : Int32, ((x.toUInt32 >>> ((Int32.ofInt s).toUInt32 &&& Int32.toUInt32 31)).toInt32).toBitVec = x.toBitVec >>> n) (a : Int) : pAnd (pShr a s) 255 = pAnd (pUsh a s) 255 := by
  unfold pAnd pShr pUsh pO
  simp only [Int32.ofInt_toInt]
  congr 1
  apply Int32.toBitVec_inj.mp
  show (Int32.ofInt a >>> (Int32.ofInt s &&& 31)).toBitVec &&& 255#32 = (((Int32.ofInt a).toUInt32 >>> ((Int32.ofInt s).toUInt32 &&& Int32.toUInt32 31)).toInt32).toBitVec &&& 255#32
  rw [hs, hu]
  exact bt2 _ _ hn
theorem bs_k (a : Int) {k : Nat} (hk : k ≤ 3) : pAnd (pShr a (8 * (k : Int))) 255 = pAnd (pUsh a (8 * (k : Int))) 255 := by
  match k, hk with
  | 0, _ => exact bs_8 0 0 (by omega) (fun _ => rfl) (fun _ => rfl) a
  | 1, _ => exact bs_8 8 8 (by omega) (fun _ => rfl) (fun _ => rfl) a
  | 2, _ => exact bs_8 16 16 (by omega) (fun _ => rfl) (fun _ => rfl) a
  | 3, _ => exact bs_8 24 24 (by omega) (fun _ => rfl) (fun _ => rfl) a
/-- a byte of a value, by how far -/
theorem bs_p (a p : Int) (h : 0 ≤ p ∧ p < 4) : pAnd (pShr a (pw (8 * p))) 255 = pAnd (pUsh a (pw (8 * p))) 255 := by
  obtain ⟨k, rfl⟩ : ∃ k : Nat, p = (k : Int) := ⟨p.toNat, by omega⟩
  rw [pw_id (by omega) (by omega)]
  exact bs_k a (by omega)
/-- the youngest store below that covers a byte -/
def yc (σ : pS) (a : Int) : Nat → Int
  | 0 => -1
  | k + 1 => if σ 5 k = 3 ∧ σ 39 k = 2 ∧ pAnd (pw (a - σ 37 k)) 63 < σ 7 k then (k : Int) else yc σ a k
theorem yc_r (σ : pS) (a : Int) : ∀ k : Nat, yc σ a k = -1 ∨ ∃ j : Nat, yc σ a k = (j : Int) ∧ j < k ∧ σ 5 j = 3 ∧ σ 39 j = 2 ∧ pAnd (pw (a - σ 37 j)) 63 < σ 7 j
  | 0 => Or.inl rfl
  | k + 1 => by
    unfold yc
    by_cases h : σ 5 k = 3 ∧ σ 39 k = 2 ∧ pAnd (pw (a - σ 37 k)) 63 < σ 7 k
    · rw [if_pos h]
      exact Or.inr ⟨k, rfl, by omega, h⟩
    · rw [if_neg h]
      rcases yc_r σ a k with z | ⟨j, z1, z2, z3⟩
      · exact Or.inl z
      · exact Or.inr ⟨j, z1, by omega, z3⟩
theorem yc_cg {σ σ' : pS} {a : Int} : ∀ k : Nat, (∀ j, j < k → σ' 5 j = σ 5 j ∧ σ' 39 j = σ 39 j ∧ σ' 37 j = σ 37 j ∧ σ' 7 j = σ 7 j) → yc σ' a k = yc σ a k
  | 0, _ => rfl
  | k + 1, h => by
    unfold yc
    obtain ⟨h1, h2, h3, h4⟩ := h k (by omega)
    rw [h1, h2, h3, h4, yc_cg k (fun j hj => h j (by omega))]
theorem c_yc {σ : pS} {a : Int} : ∀ (k fu : Nat), k ≤ 20 → k < fu → f_Mach_youngestCovering_3_p4 fu a ((k : Int) - 1) σ = some (yc σ a k, σ)
  | 0, fu, hk, hf => by
    obtain ⟨n, rfl⟩ : ∃ n, fu = n + 1 := ⟨fu - 1, by omega⟩
    show (if ((0 : Nat) : Int) - 1 < 0 then _ else _) = _
    rw [if_pos (by omega)]
    rfl
  | k + 1, fu, hk, hf => by
    obtain ⟨n, rfl⟩ : ∃ n, fu = n + 1 := ⟨fu - 1, by omega⟩
    have e : ((k + 1 : Nat) : Int) - 1 = (k : Int) := by omega
    have g : (0 : Int) ≤ (k : Int) ∧ (k : Int) < 20 := by omega
    have ih := c_yc (σ := σ) (a := a) k n (by omega) (by omega)
    rw [e]
    show (if (k : Int) < 0 then _ else _) = _
    rw [if_neg (by omega)]
    simp only [if_pos g, Int.toNat_natCast, c_cov, Option.bind_some, pw_p (show k < 20 by omega) (show 20 ≤ 100000 by decide)]
    unfold yc
    by_cases h1 : σ 5 k = 3
    · rw [if_pos h1]
      by_cases h2 : σ 39 k = 2
      · rw [if_pos h2]
        by_cases h3 : σ 7 k ≤ pAnd (pw (a - σ 37 k)) 63
        · simp only [if_pos h3]
          rw [if_pos trivial, if_neg (fun z => absurd z.2.2 (Int.not_lt.mpr h3))]
          exact ih
        · simp only [if_neg h3]
          rw [if_neg (by decide), if_pos ⟨h1, h2, Int.not_le.mp h3⟩]
      · rw [if_neg h2, if_neg (fun z => h2 z.2.1)]
        exact ih
    · rw [if_neg h1, if_neg (fun z => h1 z.1)]
      exact ih
/-- what both know of the ops below i -/
def BL (i : Nat) (σ τ : pS) : Prop := ∀ k, k < i → τ 88 k = σ 5 k ∧ τ 118 k = σ 39 k ∧ (σ 5 k = 3 → τ 93 k = σ 7 k ∧ σ 7 k ≤ 4) ∧ (σ 5 k = 3 → σ 39 k = 2 → τ 121 k = σ 37 k ∧ τ 120 k = σ 36 k)
theorem m_l37 {σ τ : pS} {i : Nat} (hi : i ≤ 20) (hB : BL i σ τ) {K : Int → Int → pS → Option (Int × pS)} {e a : Int} : ∀ (d k n : Nat), k + d = i → f_M_loads_84_p37 K (d + n + 1) (i : Int) e a (yc σ a k) (k : Int) τ = f_M_loads_84_p37 K (n + 1) (i : Int) e a (yc σ a i) (i : Int) τ
  | 0, k, n, hk => by
    have : k = i := by omega
    rw [this, Nat.zero_add]
  | d + 1, k, n, hk => by
    have g : (0 : Int) ≤ (k : Int) ∧ (k : Int) < 20 := by omega
    have ih := m_l37 hi hB (K := K) (e := e) (a := a) d (k + 1) n (by omega)
    rw [show d + 1 + n + 1 = (d + n + 1) + 1 by omega]
    refine Eq.trans ?_ ih
    obtain ⟨b1, b2, b3, b4⟩ := hB k (by omega)
    show (if (i : Int) ≤ (k : Int) then _ else _) = _
    rw [if_neg (by omega)]
    simp only [if_pos g, Int.toNat_natCast, m_cov (show k < 20 by omega), Option.bind_some, pw_s (show k < 20 by omega) (show 20 ≤ 100000 by decide), b1, b2]
    conv => rhs; unfold yc
    by_cases h1 : σ 5 k = 3
    · rw [if_pos h1]
      by_cases h2 : σ 39 k = 2
      · rw [if_pos h2, (b3 h1).1, (b4 h1 h2).1]
        by_cases h3 : σ 7 k ≤ pAnd (pw (a - σ 37 k)) 63
        · simp only [if_pos h3]
          rw [if_pos trivial, if_neg (fun z => absurd z.2.2 (Int.not_lt.mpr h3))]
        · simp only [if_neg h3]
          rw [if_neg (by decide), if_pos ⟨h1, h2, Int.not_le.mp h3⟩]
      · rw [if_neg h2, if_neg (fun z => h2 z.2.1)]
    · rw [if_neg h1, if_neg (fun z => h1 z.1)]
def P_tb (i k x : Nat) : Prop := (k = 36 ∧ x = i) ∨ (k = 38 ∧ 4 * i ≤ x ∧ x < 4 * i + 4)
def Q_tb (i k x : Nat) : Prop := (k = 120 ∧ x = i) ∨ (k = 124 ∧ 4 * i ≤ x ∧ x < 4 * i + 4)
theorem BL.fr {i : Nat} {σ τ σ' τ' : pS} (h : BL i σ τ) (h1 : ∀ k x, (k = 5 ∨ k = 7 ∨ k = 39 ∨ k = 36 ∨ k = 37) → x < i → σ' k x = σ k x) (h2 : ∀ k x, (k = 88 ∨ k = 93 ∨ k = 118 ∨ k = 120 ∨ k = 121) → x < i → τ' k x = τ k x) : BL i σ' τ' := by
  intro k hk
  rw [h1 5 k (by omega) hk, h1 7 k (by omega) hk, h1 39 k (by omega) hk, h1 36 k (by omega) hk, h1 37 k (by omega) hk, h2 88 k (by omega) hk, h2 93 k (by omega) hk, h2 118 k (by omega) hk, h2 120 k (by omega) hk, h2 121 k (by omega) hk]
  exact h k hk
/-- a load takes its bytes: the same in both -/
theorem tb_lp {i s : Nat} (hi : i < 20) (hs4 : s ≤ 4) : ∀ (d e fu1 fu2 : Nat) (σ τ : pS) (v : Int), e + d = s → d < fu1 → d < fu2 → σ 7 i = (s : Int) → τ 93 i = (s : Int) → τ 121 i = σ 37 i → BL i σ τ → (∀ x, x < 64 → σ 26 x = τ 127 x) → τ 120 i = v → (∀ q : Nat, q < e → σ 38 (4 * i + q) = τ 124 (4 * i + q) ∧ (σ 38 (4 * i + q) = -1 ∨ ∃ j : Nat, σ 38 (4 * i + q) = (j : Int) ∧ j < i ∧ σ 5 j = 3)) →
    ∃ σ' τ' v', f_Mach_takeBytes_3_p4 fu1 (i : Int) v (e : Int) σ = some (0, pU σ' 36 i v') ∧ f_M_loads_84_p9 fu2 (i : Int) (e : Int) τ = some (0, τ') ∧ τ' 120 i = v' ∧ (∀ q : Nat, q < s → σ' 38 (4 * i + q) = τ' 124 (4 * i + q) ∧ (σ' 38 (4 * i + q) = -1 ∨ ∃ j : Nat, σ' 38 (4 * i + q) = (j : Int) ∧ j < i ∧ σ 5 j = 3)) ∧ FR (P_tb i) σ σ' ∧ FR (Q_tb i) τ τ'
  | 0, e, fu1, fu2, σ, τ, v, he, h1, h2, s1, s2, hp, hB, hm, hv, hg => by
    obtain ⟨n1, rfl⟩ : ∃ n, fu1 = n + 1 := ⟨fu1 - 1, by omega⟩
    obtain ⟨n2, rfl⟩ : ∃ n, fu2 = n + 1 := ⟨fu2 - 1, by omega⟩
    have g : (0 : Int) ≤ (i : Int) ∧ (i : Int) < 20 := by omega
    refine ⟨σ, τ, v, ?_, ?_, hv, fun q hq => hg q (by omega), FR.rf _ _, FR.rf _ _⟩
    · show (if (0 : Int) ≤ (i : Int) ∧ (i : Int) < 20 then _ else _) = _
      rw [if_pos g, Int.toNat_natCast, s1, if_pos (by omega), if_pos g]
    · show (if (0 : Int) ≤ (i : Int) ∧ (i : Int) < 20 then _ else _) = _
      rw [if_pos g, Int.toNat_natCast, s2, if_pos (by omega)]
  | d + 1, e, fu1, fu2, σ, τ, v, he, h1, h2, s1, s2, hp, hB, hm, hv, hg => by
    obtain ⟨n1, rfl⟩ : ∃ n, fu1 = n + 1 := ⟨fu1 - 1, by omega⟩
    obtain ⟨n2, rfl⟩ : ∃ n, fu2 = n + 1 := ⟨fu2 - 1, by omega⟩
    have g : (0 : Int) ≤ (i : Int) ∧ (i : Int) < 20 := by omega
    have he4 : e < 4 := by omega
    have cn1 : ¬ (s : Int) ≤ (e : Int) := by omega
    have r63 := pAnd_63 (pw (σ 37 i + (e : Int)))
    have r64 : 0 ≤ atk (σ 37 i) e ∧ atk (σ 37 i) e < 64 := r63
    have r65 : (atk (σ 37 i) e).toNat < 64 := by omega
    have ix := ix4 hi he4
    have pws := pw_s he4 (show 4 ≤ 100000 by decide)
    -- the byte itself
    have byte : ∃ b : Int, f_Mach_takeBytes_3_p4 (n1 + 1) (i : Int) v (e : Int) σ = f_Mach_takeBytes_3_p4 n1 (i : Int) (pOr v (pShl b (pw (8 * (e : Int))))) ((e + 1 : Nat) : Int) (pU σ 38 (4 * i + e) (yc σ (atk (σ 37 i) e) i)) ∧ f_M_loads_84_p9 (n2 + 1) (i : Int) (e : Int) τ = f_M_loads_84_p9 n2 (i : Int) ((e + 1 : Nat) : Int) (pU (pU τ 124 (4 * i + e) (yc σ (atk (σ 37 i) e) i)) 120 i (pOr (τ 120 i) (pShl b (pw (8 * (e : Int)))))) := by
      have ey : f_Mach_youngestCovering_3 (i : Int) (pAnd (pw (σ 37 i + (e : Int))) 63) σ = some (yc σ (atk (σ 37 i) e) i, σ) := by
        unfold f_Mach_youngestCovering_3
        rw [pw_id (z := (i : Int) - 1) (by omega) (by omega)]
        exact c_yc (a := atk (σ 37 i) e) i 4096 (by omega) (by omega)
      have eX : f_Mach_takeBytes_3_p4 (n1 + 1) (i : Int) v (e : Int) σ = (if yc σ (atk (σ 37 i) e) i = -1 then (f_Mach_takeBytes_3_p69 (f_Mach_takeBytes_3_p4 n1) (i : Int) v (e : Int) (yc σ (atk (σ 37 i) e) i) (σ 26 (atk (σ 37 i) e).toNat) σ) else ((f_Mach_storedAt_3 (yc σ (atk (σ 37 i) e) i) (atk (σ 37 i) e) σ).bind fun q7 => (f_Mach_takeBytes_3_p69 (f_Mach_takeBytes_3_p4 n1) (i : Int) v (e : Int) (yc σ (atk (σ 37 i) e) i) q7.1 q7.2))) := by
        show (if (0 : Int) ≤ (i : Int) ∧ (i : Int) < 20 then _ else _) = _
        rw [if_pos g, Int.toNat_natCast, s1, if_neg cn1, if_pos g, ey, Option.bind_some, if_pos r63]
        rfl
      have e69 : ∀ (b : Int), f_Mach_takeBytes_3_p69 (f_Mach_takeBytes_3_p4 n1) (i : Int) v (e : Int) (yc σ (atk (σ 37 i) e) i) b σ = f_Mach_takeBytes_3_p4 n1 (i : Int) (pOr v (pShl b (pw (8 * (e : Int))))) ((e + 1 : Nat) : Int) (pU σ 38 (4 * i + e) (yc σ (atk (σ 37 i) e) i)) := fun b => by
        unfold f_Mach_takeBytes_3_p69
        rw [ix.1, if_pos ix.2.2, Int.toNat_natCast, pws]
      have e0 : yc σ (atk (σ 37 i) e) 0 = -1 := rfl
      have el := m_l37 (show i ≤ 20 by omega) hB (K := f_M_loads_84_p9 n2) (e := (e : Int)) (a := atk (σ 37 i) e) i 0 (4095 - i) (by omega)
      rw [show i + (4095 - i) + 1 = 4096 by omega, e0] at el
      have eM : f_M_loads_84_p9 (n2 + 1) (i : Int) (e : Int) τ = f_M_loads_84_p37 (f_M_loads_84_p9 n2) (4095 - i + 1) (i : Int) (e : Int) (atk (σ 37 i) e) (yc σ (atk (σ 37 i) e) i) (i : Int) τ := by
        show (if (0 : Int) ≤ (i : Int) ∧ (i : Int) < 20 then _ else _) = _
        rw [if_pos g, Int.toNat_natCast, s2, if_neg cn1, if_pos g, hp]
        exact el
      have e134 : ∀ (b : Int) (t : pS), f_M_loads_84_p134 (f_M_loads_84_p9 n2) (i : Int) (e : Int) b t = f_M_loads_84_p9 n2 (i : Int) ((e + 1 : Nat) : Int) (pU t 120 i (pOr (t 120 i) (pShl b (pw (8 * (e : Int)))))) := fun b t => by
        unfold f_M_loads_84_p134
        rw [if_pos g, if_pos g, Int.toNat_natCast, pws]
      have eM2 : f_M_loads_84_p37 (f_M_loads_84_p9 n2) (4095 - i + 1) (i : Int) (e : Int) (atk (σ 37 i) e) (yc σ (atk (σ 37 i) e) i) (i : Int) τ = (if yc σ (atk (σ 37 i) e) i = -1 then (f_M_loads_84_p134 (f_M_loads_84_p9 n2) (i : Int) (e : Int) (τ 127 (atk (σ 37 i) e).toNat) (pU τ 124 (4 * i + e) (yc σ (atk (σ 37 i) e) i))) else (if 0 ≤ yc σ (atk (σ 37 i) e) i ∧ yc σ (atk (σ 37 i) e) i < 20 then (if 0 ≤ yc σ (atk (σ 37 i) e) i ∧ yc σ (atk (σ 37 i) e) i < 20 then ((f_M_byteOf (τ 120 (yc σ (atk (σ 37 i) e) i).toNat) (pAnd (pw (atk (σ 37 i) e - (τ 121 (yc σ (atk (σ 37 i) e) i).toNat))) 63) (pU τ 124 (4 * i + e) (yc σ (atk (σ 37 i) e) i))).bind fun q10 => (f_M_loads_84_p134 (f_M_loads_84_p9 n2) (i : Int) (e : Int) q10.1 q10.2)) else none) else none)) := by
        show (if (i : Int) ≤ (i : Int) then _ else _) = _
        rw [if_pos (Int.le_refl _), ix.2.1, if_pos ix.2.2, Int.toNat_natCast, if_pos r64]
      rw [eX, eM, eM2]
      rcases yc_r σ (atk (σ 37 i) e) i with z | ⟨j, z1, z2, z3, z4, z5⟩
      · rw [z]
        rw [if_pos rfl, if_pos rfl, ← z, e69, e134, ← hm (atk (σ 37 i) e).toNat r65, pU_c _ _ _ _ (by decide)]
        exact ⟨_, rfl, rfl⟩
      · have gj : (0 : Int) ≤ (j : Int) ∧ (j : Int) < 20 := by omega
        obtain ⟨b1, b2, b3, b4⟩ := hB j z2
        obtain ⟨b5, b6⟩ := b4 z3 z4
        have r4 : 0 ≤ pAnd (pw (atk (σ 37 i) e - σ 37 j)) 63 ∧ pAnd (pw (atk (σ 37 i) e - σ 37 j)) 63 < 4 := ⟨(pAnd_63 _).1, Int.lt_of_lt_of_le z5 (b3 z3).2⟩
        have es : f_Mach_storedAt_3 (j : Int) (atk (σ 37 i) e) σ = some (pAnd (pUsh (σ 36 j) (pw (8 * (pAnd (pw (atk (σ 37 i) e - σ 37 j)) 63)))) 255, σ) := by
          unfold f_Mach_storedAt_3
          rw [if_pos gj, if_pos gj, Int.toNat_natCast]
        have nj : ¬ ((j : Int) = -1) := by omega
        have e69' := e69 (pAnd (pUsh (σ 36 j) (pw (8 * (pAnd (pw (atk (σ 37 i) e - σ 37 j)) 63)))) 255)
        rw [z1] at e69' ⊢
        rw [if_neg nj, if_neg nj, es, Option.bind_some, if_pos gj, if_pos gj, Int.toNat_natCast]
        unfold f_M_byteOf
        rw [Option.bind_some]
        dsimp only
        rw [e69', e134, b5, b6, bs_p _ _ r4, pU_c _ _ _ _ (by decide)]
        exact ⟨_, rfl, rfl⟩
    obtain ⟨b, k1, k2⟩ := byte
    clear r63 r64 r65 ix pws
    generalize hy : yc σ (atk (σ 37 i) e) i = y at k1 k2
    have ry := yc_r σ (atk (σ 37 i) e) i
    rw [hy] at ry
    have f1 : FR (P_tb i) σ (pU σ 38 (4 * i + e) y) := FR.u (Or.inr ⟨rfl, by omega, by omega⟩)
    have f2 : FR (Q_tb i) τ (pU (pU τ 124 (4 * i + e) y) 120 i (pOr (τ 120 i) (pShl b (pw (8 * (e : Int)))))) := (FR.u (Or.inr ⟨rfl, by omega, by omega⟩)).tr (FR.u (Or.inl ⟨rfl, rfl⟩))
    obtain ⟨σ', τ', v', q1, q2, q3, q4, q5, q6⟩ := tb_lp hi hs4 d (e + 1) n1 n2 (pU σ 38 (4 * i + e) y) (pU (pU τ 124 (4 * i + e) y) 120 i (pOr (τ 120 i) (pShl b (pw (8 * (e : Int)))))) (pOr v (pShl b (pw (8 * (e : Int))))) (by omega) (by omega) (by omega) ((f1.get (by unfold P_tb; omega)).trans s1) ((f2.get (by unfold Q_tb; omega)).trans s2) (by rw [f1.get (k := 37) (by unfold P_tb; omega), f2.get (k := 121) (by unfold Q_tb; omega)]; exact hp) (hB.fr (fun k x hk hx => f1.get (by unfold P_tb; omega)) (fun k x hk hx => f2.get (by unfold Q_tb; omega))) (fun x hx => by rw [f1.get (k := 26) (by unfold P_tb; omega), f2.get (k := 127) (by unfold Q_tb; omega)]; exact hm x hx) (by rw [pU_s, hv]) (fun q hq => by
      rw [pU_c (pU τ 124 (4 * i + e) y) _ _ _ (show (124 : Nat) ≠ 120 by decide)]
      by_cases hqe : q = e
      · rw [hqe, pU_s, pU_s]
        refine ⟨rfl, ?_⟩
        rcases ry with z | ⟨j, z1, z2, z3, -⟩
        · exact Or.inl z
        · exact Or.inr ⟨j, z1, z2, by rw [pU_c _ _ _ _ (by decide)]; exact z3⟩
      · rw [pU_i _ _ _ _ (by omega), pU_i _ _ _ _ (by omega)]
        obtain ⟨w1, w2⟩ := hg q (by omega)
        refine ⟨w1, ?_⟩
        rcases w2 with z | ⟨j, z1, z2, z3⟩
        · exact Or.inl z
        · exact Or.inr ⟨j, z1, z2, by rw [pU_c _ _ _ _ (by decide)]; exact z3⟩)
    refine ⟨σ', τ', v', k1.trans q1, k2.trans q2, q3, fun q hq => ?_, f1.tr q5, f2.tr q6⟩
    obtain ⟨w1, w2⟩ := q4 q hq
    refine ⟨w1, ?_⟩
    rcases w2 with z | ⟨j, z1, z2, z3⟩
    · exact Or.inl z
    · exact Or.inr ⟨j, z1, z2, by rw [pU_c _ _ _ _ (by decide)] at z3; exact z3⟩
def P_fin (i k x : Nat) : Prop := ((k = 39 ∨ k = 34 ∨ k = 36 ∨ k = 37) ∧ x = i) ∨ (k = 38 ∧ 4 * i ≤ x ∧ x < 4 * i + 4)
def Q_fin (i k x : Nat) : Prop := ((k = 118 ∨ k = 122 ∨ k = 120 ∨ k = 121) ∧ x = i) ∨ (k = 124 ∧ 4 * i ≤ x ∧ x < 4 * i + 4)
theorem RM.sfin {m : Nat} {D : Nat → Prop} {σ τ σ' τ' : pS} {i : Nat} (h : RM m D σ τ) (a1 : FR (P_fin i) σ σ') (a2 : FR (Q_fin i) τ τ') (gz : ∀ j, j < m → 2 ≤ σ 5 j → σ 7 j ≤ 4) (g0 : σ 41 i ≠ 1) (g1 : σ' 39 i = 2) (g2 : τ' 118 i = 2) (g3 : σ' 36 i = τ' 120 i ∧ σ' 34 i = τ' 122 i ∧ (2 ≤ σ' 5 i → σ' 37 i = τ' 121 i) ∧ (σ' 5 i = 2 → ∀ e : Nat, (e : Int) < σ' 7 i → σ' 38 (4 * i + e) = τ' 124 (4 * i + e))) (g4 : (0 ≤ σ 12 i → D (σ 12 i).toNat) ∧ (0 ≤ σ 13 i → D (σ 13 i).toNat)) : RM m (fun k => D k ∨ k = i) σ' τ' := ⟨fun j hj => by
    by_cases hji : j = i
    · rw [hji, g1, g2]; exact ⟨rfl, by decide, by decide⟩
    · rw [a1.get (k := 39) (x := j) (by unfold P_fin; omega), a2.get (k := 118) (x := j) (by unfold Q_fin; omega)]; exact h.st j hj,
  fun j hj q => by
    by_cases hji : j = i
    · rw [hji, g1] at q; exact absurd q (by decide)
    · rw [a1.get (k := 39) (x := j) (by unfold P_fin; omega)] at q; rw [a1.get (k := 40) (x := j) (by unfold P_fin; omega), a2.get (k := 119) (x := j) (by unfold Q_fin; omega)]; exact h.ti j hj q,
  fun j hj => by rw [a1.get (k := 41) (x := j) (by unfold P_fin; omega), a2.get (k := 126) (x := j) (by unfold Q_fin; omega)]; exact h.rt j hj,
  fun j hj q => by
    rw [a1.get (k := 41) (x := j) (by unfold P_fin; omega)] at q
    have hji : j ≠ i := fun e => by rw [e] at q; exact g0 q
    have z := h.re j hj q
    rw [a1.get (k := 5) (x := j) (by unfold P_fin; omega), a1.get (k := 37) (x := j) (by unfold P_fin; omega), a1.get (k := 7) (x := j) (by unfold P_fin; omega), a2.get (k := 132) (x := j) (by unfold Q_fin; omega)]
    exact ⟨z.1, z.2.1, fun e he => by rw [a1.get (k := 42) (x := 4 * j + e) (by unfold P_fin; omega), a2.get (k := 125) (x := 4 * j + e) (by unfold Q_fin; omega)]; exact z.2.2 e he⟩,
  fun j hj q => by
    by_cases hji : j = i
    · rw [hji]; exact g3
    · have q : D j := q.elim (fun q => q) (fun q => absurd q hji)
      have z := h.va j hj q
      rw [a1.get (k := 36) (x := j) (by unfold P_fin; omega), a1.get (k := 34) (x := j) (by unfold P_fin; omega), a1.get (k := 5) (x := j) (by unfold P_fin; omega), a1.get (k := 37) (x := j) (by unfold P_fin; omega), a1.get (k := 7) (x := j) (by unfold P_fin; omega), a2.get (k := 120) (x := j) (by unfold Q_fin; omega), a2.get (k := 122) (x := j) (by unfold Q_fin; omega), a2.get (k := 121) (x := j) (by unfold Q_fin; omega)]
      exact ⟨z.1, z.2.1, z.2.2.1, fun k e he => by
        have h4 : (e : Int) < 4 := Int.lt_of_lt_of_le he (gz j hj (by omega))
        rw [a1.get (k := 38) (x := 4 * j + e) (by unfold P_fin; omega), a2.get (k := 124) (x := 4 * j + e) (by unfold Q_fin; omega)]; exact z.2.2.2 k e he⟩,
  fun j hj q => by
    by_cases hji : j = i
    · exact Or.inr hji
    · rw [a1.get (k := 39) (x := j) (by unfold P_fin; omega)] at q; exact Or.inl (h.dn j hj q),
  fun j hj q => by
    rw [a1.get (k := 12) (x := j) (by unfold P_fin; omega), a1.get (k := 13) (x := j) (by unfold P_fin; omega)]
    by_cases hji : j = i
    · rw [hji]; exact ⟨fun z => Or.inl (g4.1 z), fun z => Or.inl (g4.2 z)⟩
    · rw [a1.get (k := 39) (x := j) (by unfold P_fin; omega)] at q; have z := h.so j hj q; exact ⟨fun y => Or.inl (z.1 y), fun y => Or.inl (z.2 y)⟩,
  fun j hj => by rw [a1.get (k := 35) (x := j) (by unfold P_fin; omega), a2.get (k := 123) (x := j) (by unfold Q_fin; omega)]; exact h.rp j hj,
  fun j hj => by rw [a1.get (k := 30) (x := j) (by unfold P_fin; omega), a2.get (k := 128) (x := j) (by unfold Q_fin; omega)]; exact h.me j hj,
  fun j hj => by rw [a1.get (k := 26) (x := j) (by unfold P_fin; omega), a2.get (k := 127) (x := j) (by unfold Q_fin; omega)]; exact h.m0 j hj,
  fun j hj => by rw [a1.get (k := 31) (x := j) (by unfold P_fin; omega), a2.get (k := 87) (x := j) (by unfold Q_fin; omega)]; exact h.se j hj,
  by rw [a1.get (k := 28) (x := 3) (by unfold P_fin; omega), a2.get (k := 84) (x := 3) (by unfold Q_fin; omega)]; exact h.ns,
  by rw [a1.get (k := 28) (x := 5) (by unfold P_fin; omega), a2.get (k := 84) (x := 0) (by unfold Q_fin; omega)]; exact h.x,
  by rw [a1.get (k := 33) (x := 2) (by unfold P_fin; omega), a2.get (k := 84) (x := 65) (by unfold Q_fin; omega)]; exact h.cr,
  by rw [a1.get (k := 33) (x := 3) (by unfold P_fin; omega), a2.get (k := 84) (x := 66) (by unfold Q_fin; omega)]; exact h.ca,
  by rw [a1.get (k := 33) (x := 4) (by unfold P_fin; omega), a2.get (k := 84) (x := 67) (by unfold Q_fin; omega)]; exact h.cu,
  by rw [a1.get (k := 33) (x := 5) (by unfold P_fin; omega), a2.get (k := 84) (x := 68) (by unfold Q_fin; omega)]; exact h.cd,
  by rw [a1.get (k := 24) (x := 4) (by unfold P_fin; omega), a2.get (k := 84) (x := 1) (by unfold Q_fin; omega)]; exact h.ru,
  fun j hj => by rw [a1.get (k := 25) (x := j) (by unfold P_fin; omega), a2.get (k := 85) (x := j) (by unfold Q_fin; omega)]; exact h.rg j hj,
  fun j hj h20 => by rw [a1.get (k := 31) (x := j) (by unfold P_fin; omega)]; exact h.sh j hj h20⟩
def vr (σ : pS) (s r : Int) : Int := if 0 ≤ s then σ 36 s.toNat else if 0 ≤ r ∧ r < 8 then σ 25 r.toNat else 0
theorem c_vr {σ : pS} {s r : Int} (hs : s < 20) : f_Mach_valueRead_3 s r σ = some (vr σ s r, σ) := by
  unfold f_Mach_valueRead_3 vr f_Mach_valueRead_3_p20
  by_cases h : s < 0
  · rw [if_pos h, if_neg (by omega), x_isCell, Option.bind_some]
    by_cases hr : 0 ≤ r ∧ r < 8
    · simp only [if_pos hr]
      rw [if_neg (by decide)]
    · simp only [if_neg hr]
      rw [if_pos trivial]
  · rw [if_neg h, if_neg (by omega), if_pos (by omega), if_pos (by omega)]
section FI
variable {m : Nat} {rec : Nat → O8} {D : Nat → Prop} {σ τ : pS}
/-- a register as an op reads it -/
theorem m_rb (hG : PG m rec σ τ) (h : RM m D σ τ) {i : Nat} (hi : i ≤ m) {r : Int} (hr : 0 ≤ r ∧ r < 8) {τ1 : pS} (hMR : ∀ j, j < m → MRp τ1 j (rec j)) (e85 : ∀ x, τ1 85 x = τ 85 x) (e120 : ∀ x, x < i → τ1 120 x = τ 120 x) (hD : 0 ≤ src (σ 8) i r → D (src (σ 8) i r).toNat) : f_M_readBy_84 (i : Int) r τ1 = some (vr σ (src (σ 8) i r) r, τ1) := by
  have hm := hG.le
  have gr := gv_r (σ 8) r i
  have es : src (σ 8) i r = gv (σ 8) i r := by
    unfold src
    rw [if_pos hr]
  unfold f_M_readBy_84
  rw [m_giv hm (fun j hj => ⟨(hG.op j hj).1, hMR j hj, (hG.op j hj).2.2⟩) hr.1 hi, Option.bind_some]
  dsimp only
  rw [es] at hD
  rw [es]
  unfold vr
  by_cases z : gv (σ 8) i r = -1
  · rw [if_pos z, if_pos hr, if_neg (by omega), if_pos hr, e85, ← h.rg r.toNat (by omega)]
  · rw [if_neg z, if_pos (by omega), if_pos (by omega), e120 _ (by omega), ← (h.va (gv (σ 8) i r).toNat (by omega) (hD (by omega))).1]
theorem ko_0 {c : Int} (h : ko c = 0) : c = 35 := by
  unfold ko at h
  (repeat' split at h) <;> omega
theorem ko_1 {c : Int} (h : ko c = 1) : c = 38 ∨ c = 42 ∨ c = 43 ∨ c = 45 ∨ c = 62 ∨ c = 94 := by
  unfold ko at h
  (repeat' split at h) <;> omega
theorem c_rk0 {i : Nat} (hi : i < 20) (a b : Int) {σ1 : pS} (h : σ1 6 i = 35) : f_Prog_reckoned_4 (i : Int) a b σ1 = some (σ1 11 i, σ1) := by
  unfold f_Prog_reckoned_4
  have g : (0 : Int) ≤ (i : Int) ∧ (i : Int) < 20 := by omega
  simp only [if_pos g, Int.toNat_natCast, h]
  rfl
theorem c_rk1 {i : Nat} (hi : i < 20) (a b : Int) {σ1 τ1 : pS} (h : σ1 6 i = 38 ∨ σ1 6 i = 42 ∨ σ1 6 i = 43 ∨ σ1 6 i = 45 ∨ σ1 6 i = 62 ∨ σ1 6 i = 94) : ∃ v, f_Prog_reckoned_4 (i : Int) a b σ1 = some (v, σ1) ∧ f_M_reckoned (σ1 6 i) a b τ1 = some (v, τ1) := by
  have g : (0 : Int) ≤ (i : Int) ∧ (i : Int) < 20 := by omega
  unfold f_Prog_reckoned_4 f_M_reckoned
  simp only [if_pos g, Int.toNat_natCast]
  rcases h with h | h | h | h | h | h
  · rw [h]; exact ⟨_, rfl, rfl⟩
  · rw [h]; exact ⟨_, rfl, rfl⟩
  · rw [h]; exact ⟨_, rfl, rfl⟩
  · rw [h]; exact ⟨_, rfl, rfl⟩
  · rw [h]
    by_cases z : a ≤ b
    · simp only [if_pos z]; exact ⟨0, rfl, rfl⟩
    · simp only [if_neg z]; exact ⟨1, rfl, rfl⟩
  · rw [h]; exact ⟨_, rfl, rfl⟩
theorem c_cut {i : Nat} (hi : i < 20) (a : Int) {σ1 τ1 : pS} (h : σ1 7 i = 1 ∨ σ1 7 i = 2 ∨ σ1 7 i = 4) : ∃ v, f_Prog_storedOf_4 (i : Int) a σ1 = some (v, σ1) ∧ f_M_cut a (σ1 7 i) τ1 = some (v, τ1) := by
  have g : (0 : Int) ≤ (i : Int) ∧ (i : Int) < 20 := by omega
  unfold f_Prog_storedOf_4 f_M_cut
  simp only [if_pos g, Int.toNat_natCast]
  rcases h with h | h | h
  · rw [h]
    have : pw (pShl 1 (pw (8 * 1)) - 1) = 255 := by decide
    rw [this]
    exact ⟨_, rfl, rfl⟩
  · rw [h]
    have : pw (pShl 1 (pw (8 * 2)) - 1) = 65535 := by decide
    rw [this]
    exact ⟨_, rfl, rfl⟩
  · rw [h]
    exact ⟨_, rfl, rfl⟩
/-- all that is kept up in a run -/
def RN (m : Nat) (rec : Nat → O8) (D : Nat → Prop) (σ τ : pS) : Prop := (PG m rec σ τ) ∧
  (RM m D σ τ) ∧
  (T2 m σ) ∧
  (GV m D σ) ∧
  (CW σ τ)
theorem RN.g {m : Nat} {rec : Nat → O8} {D : Nat → Prop} {σ τ : pS} (h : RN m rec D σ τ) : PG m rec σ τ := h.1
theorem RN.r {m : Nat} {rec : Nat → O8} {D : Nat → Prop} {σ τ : pS} (h : RN m rec D σ τ) : RM m D σ τ := h.2.1
theorem RN.t {m : Nat} {rec : Nat → O8} {D : Nat → Prop} {σ τ : pS} (h : RN m rec D σ τ) : T2 m σ := h.2.2.1
theorem RN.v {m : Nat} {rec : Nat → O8} {D : Nat → Prop} {σ τ : pS} (h : RN m rec D σ τ) : GV m D σ := h.2.2.2.1
theorem RN.w {m : Nat} {rec : Nat → O8} {D : Nat → Prop} {σ τ : pS} (h : RN m rec D σ τ) : CW σ τ := h.2.2.2.2
/-- an op comes done: the same in both -/
theorem fi_ls (H : RN m rec D σ τ) {i : Nat} (hi : i < m) (h1 : σ 39 i = 1) (h2 : σ 40 i = σ 3 11) (n : Nat) : ∃ σ' τ', f_Mach_finishOps_3_p2 (n + 1) (i : Int) σ = f_Mach_finishOps_3_p2 n ((i + 1 : Nat) : Int) σ' ∧ f_M_comesDone_84 (i : Int) (σ 3 11) τ = some (0, τ') ∧ RN m rec (fun k => D k ∨ k = i) σ' τ' ∧ FR PN σ σ' ∧ FR QN τ τ' ∧ σ' 3 11 = σ 3 11 := by
  obtain ⟨hG, h, hT, hV, hC⟩ := H
  have hm := hG.le
  have i20 : i < 20 := by omega
  have g : (0 : Int) ≤ (i : Int) ∧ (i : Int) < 20 := by omega
  have kd := hG.kd hi
  obtain ⟨cr, mr, vv⟩ := hG.op i hi
  obtain ⟨so1, so2⟩ := hG.so i hi
  have hso := h.so i hi (by omega)
  have s1 := src_r (σ 8) i (σ 9 i)
  have s2 := src_r (σ 8) i (σ 10 i)
  have hrt : σ 41 i ≠ 1 := fun z => by have := hT i hi z; omega
  have gz : ∀ j, j < m → 2 ≤ σ 5 j → σ 7 j ≤ 4 := fun j hj hk => by have := (hG.sz hj hk).2; omega
  generalize hσ1 : pU (pU σ 39 i 2) 34 i (σ 3 11) = σ1
  generalize hτ1 : pU (pU τ 118 i 2) 122 i (σ 3 11) = τ1
  have a1 : FR (P_fin i) σ σ1 := by
    rw [← hσ1]
    exact (FR.u (by unfold P_fin; omega)).tr (FR.u (by unfold P_fin; omega))
  have b1 : FR (Q_fin i) τ τ1 := by
    rw [← hτ1]
    exact (FR.u (by unfold Q_fin; omega)).tr (FR.u (by unfold Q_fin; omega))
  have x1 : ∀ k x, k ≠ 39 → k ≠ 34 → σ1 k x = σ k x := fun k x z1 z2 => by rw [← hσ1, pU_c _ _ _ _ z2, pU_c _ _ _ _ z1]
  have y1 : ∀ k x, k ≠ 118 → k ≠ 122 → τ1 k x = τ k x := fun k x z1 z2 => by rw [← hτ1, pU_c _ _ _ _ z2, pU_c _ _ _ _ z1]
  have x39 : σ1 39 i = 2 := by rw [← hσ1, pU_c _ _ _ _ (by decide), pU_s]
  have x34 : σ1 34 i = σ 3 11 := by rw [← hσ1, pU_s]
  have y118 : τ1 118 i = 2 := by rw [← hτ1, pU_c _ _ _ _ (by decide), pU_s]
  have y122 : τ1 122 i = σ 3 11 := by rw [← hτ1, pU_s]
  have v36 : ∀ s r, vr σ1 s r = vr σ s r := fun s r => by
    unfold vr
    rw [x1 36 _ (by decide) (by decide), x1 25 _ (by decide) (by decide)]
  have eV1 : f_Mach_valueRead_3 (σ 12 i) (σ 9 i) σ1 = some (vr σ (σ 12 i) (σ 9 i), σ1) := by rw [c_vr (by omega), v36]
  have eV2 : f_Mach_valueRead_3 (σ1 13 i) (σ1 10 i) σ1 = some (vr σ (σ 13 i) (σ 10 i), σ1) := by rw [x1 13 _ (by decide) (by decide), x1 10 _ (by decide) (by decide), c_vr (by omega), v36]
  have hMR1 : ∀ j, j < m → MRp τ1 j (rec j) := fun j hj => by
    have z := (hG.op j hj).2.1
    unfold MRp at *
    rw [y1 88 _ (by decide) (by decide), y1 89 _ (by decide) (by decide), y1 90 _ (by decide) (by decide), y1 91 _ (by decide) (by decide), y1 92 _ (by decide) (by decide), y1 93 _ (by decide) (by decide), y1 94 _ (by decide) (by decide), y1 95 _ (by decide) (by decide)]
    exact z
  have PNf : ∀ k x, P_fin i k x → PN k x := fun k x z => by unfold P_fin at z; unfold PN; omega
  have QNf : ∀ k x, Q_fin i k x → QN k x := fun k x z => by unfold Q_fin at z; unfold QN; omega
  -- what holds once the values are there
  have done : ∀ σ2 τ2 : pS, FR (P_fin i) σ1 σ2 → FR (Q_fin i) τ1 τ2 → σ2 39 i = 2 → σ2 34 i = σ 3 11 → τ2 118 i = 2 → τ2 122 i = σ 3 11 → σ2 36 i = τ2 120 i → (2 ≤ σ 5 i → σ2 37 i = τ2 121 i) → (σ 5 i = 2 → ∀ e : Nat, (e : Int) < σ 7 i → σ2 38 (4 * i + e) = τ2 124 (4 * i + e) ∧ (σ2 38 (4 * i + e) = -1 ∨ ∃ j : Nat, σ2 38 (4 * i + e) = (j : Int) ∧ j < i ∧ σ 5 j = 3)) → RN m rec (fun k => D k ∨ k = i) σ2 τ2 := fun σ2 τ2 c1 c2 c3 c4 c5 c6 c7 c8 c9 => by
    have f1 := a1.tr c1
    have f2 := b1.tr c2
    have e5 : ∀ x, σ2 5 x = σ 5 x := fun x => f1.get (by unfold P_fin; omega)
    have e7 : ∀ x, σ2 7 x = σ 7 x := fun x => f1.get (by unfold P_fin; omega)
    refine ⟨hG.fr (f1.mono PNf) (f2.mono QNf), h.sfin f1 f2 gz hrt c3 c5 ⟨c7, by rw [c4, c6], by rw [e5]; exact c8, fun q e he => ?_⟩ hso, fun j hj z => ?_, fun k hk hD z e he => ?_, ?_⟩
    · rw [e5] at q
      rw [e7] at he
      exact (c9 q e he).1
    · rw [f1.get (k := 41) (by unfold P_fin; omega)] at z
      have hji : j ≠ i := fun e => hrt (e ▸ z)
      rw [f1.get (k := 39) (by unfold P_fin; omega)]
      exact hT j hj z
    · rw [e5] at z
      rw [e7] at he
      by_cases hki : k = i
      · rw [hki] at z he ⊢
        rcases (c9 z e he).2 with w | ⟨j, w1, w2, w3⟩
        · exact Or.inl w
        · rw [w1, e5, Int.toNat_natCast]
          exact Or.inr ⟨by omega, by omega, w3⟩
      · have h4 := gz k hk (by omega)
        have hD : D k := hD.elim (fun q => q) (fun q => absurd q hki)
        rw [f1.get (k := 38) (x := 4 * k + e) (by unfold P_fin; omega), e5]
        exact hV k hk hD z e he
    · unfold CW
      rw [f1.get (k := 33) (by unfold P_fin; omega), f2.get (k := 84) (by unfold Q_fin; omega)]
      exact hC
  have eX : f_Mach_finishOps_3_p2 (n + 1) (i : Int) σ = (if σ 5 i = 2 then ((f_Prog_placeBy_4 (i : Int) (vr σ (σ 13 i) (σ 10 i)) σ1).bind fun q25 => ((f_Mach_takeBytes_3 (i : Int) (pU q25.2 37 i q25.1)).bind fun q27 => (f_Mach_finishOps_3_p2 n ((i + 1 : Nat) : Int) q27.2))) else (if σ 5 i = 3 then ((f_Prog_placeBy_4 (i : Int) (vr σ (σ 13 i) (σ 10 i)) σ1).bind fun q20 => ((f_Prog_storedOf_4 (i : Int) (vr σ (σ 12 i) (σ 9 i)) (pU q20.2 37 i q20.1)).bind fun q22 => ((f_Mach_lookBack_3 (i : Int) (pU q22.2 36 i q22.1)).bind fun q24 => (f_Mach_finishOps_3_p2 n ((i + 1 : Nat) : Int) q24.2)))) else ((f_Prog_reckoned_4 (i : Int) (vr σ (σ 12 i) (σ 9 i)) (vr σ (σ 13 i) (σ 10 i)) σ1).bind fun q18 => (f_Mach_finishOps_3_p2 n ((i + 1 : Nat) : Int) (pU q18.2 36 i q18.1))))) := by
    show (if σ 4 11 ≤ (i : Int) then _ else _) = _
    rw [hG.cm, if_neg (by omega)]
    simp only [if_pos g, Int.toNat_natCast, if_pos h1, if_pos h2, hσ1, pw_s i20 (show 20 ≤ 100000 by decide), eV1, Option.bind_some, eV2, x1 5 i (by decide) (by decide)]
  have eM : f_M_comesDone_84 (i : Int) (σ 3 11) τ = (if σ 5 i = 0 then some (0, pU τ1 120 i (τ 95 i)) else (if σ 5 i = 1 then ((f_M_readBy_84 (i : Int) (τ 91 i) τ1).bind fun q10 => ((f_M_readBy_84 (i : Int) (q10.2 92 i) q10.2).bind fun q12 => ((f_M_reckoned (τ 89 i) q10.1 q12.1 q12.2).bind fun q13 => some (0, pU q13.2 120 i q13.1)))) else (if σ 5 i = 2 then ((f_M_placeBy_84 (i : Int) τ1).bind fun q16 => ((f_M_loads_84 (i : Int) (pU q16.2 121 i q16.1)).bind fun q18 => some (0, q18.2))) else ((f_M_placeBy_84 (i : Int) τ1).bind fun q19 => ((f_M_readBy_84 (i : Int) (q19.2 90 i) (pU q19.2 121 i q19.1)).bind fun q22 => ((f_M_cut q22.1 (q22.2 93 i) q22.2).bind fun q24 => ((f_M_looksBack_84 (i : Int) (pU q24.2 120 i q24.1)).bind fun q26 => some (0, q26.2)))))))) := by
    unfold f_M_comesDone_84
    simp only [if_pos g, Int.toNat_natCast, hτ1, kd.1]
  obtain ⟨r5, r6, r7, r89, r10, r11⟩ := cr
  obtain ⟨t88, t89, t90, t1, t2, t95⟩ := mr
  obtain ⟨w1, w2, w3, w4, w5, w6, w7⟩ := vv
  have rb : ∀ (r : Int) (τ9 : pS), 0 ≤ r ∧ r < 8 → (∀ j, j < m → MRp τ9 j (rec j)) → (∀ x, τ9 85 x = τ 85 x) → (∀ x, x < i → τ9 120 x = τ 120 x) → (0 ≤ src (σ 8) i r → D (src (σ 8) i r).toNat) → f_M_readBy_84 (i : Int) r τ9 = some (vr σ (src (σ 8) i r) r, τ9) := fun r τ9 q1 q2 q3 q4 q5 => m_rb hG h (Nat.le_of_lt hi) q1 q2 q3 q4 q5
  have d1 : 0 ≤ src (σ 8) i (σ 9 i) → D (src (σ 8) i (σ 9 i)).toNat := by rw [← so1]; exact hso.1
  have d2 : 0 ≤ src (σ 8) i (σ 10 i) → D (src (σ 8) i (σ 10 i)).toNat := by rw [← so2]; exact hso.2
  rw [eX, eM]
  by_cases k0 : σ 5 i = 0
  · have e6 : σ1 6 i = 35 := by
      rw [x1 6 i (by decide) (by decide), r6]
      exact ko_0 (by rw [← w7, ← r5]; exact k0)
    rw [if_neg (by omega), if_neg (by omega), c_rk0 i20 _ _ e6, Option.bind_some, if_pos k0, t95 (by omega), x1 11 i (by decide) (by decide), r11]
    refine ⟨_, _, rfl, rfl, done _ _ (FR.u (by unfold P_fin; omega)) (FR.u (by unfold Q_fin; omega)) ?_ ?_ ?_ ?_ ?_ (fun q => by omega) (fun q => by omega), (a1.tr (FR.u (by unfold P_fin; omega))).mono PNf, (b1.tr (FR.u (by unfold Q_fin; omega))).mono QNf, ?_⟩
    · rw [pU_c _ _ _ _ (by decide)]; exact x39
    · rw [pU_c _ _ _ _ (by decide)]; exact x34
    · rw [pU_c _ _ _ _ (by decide)]; exact y118
    · rw [pU_c _ _ _ _ (by decide)]; exact y122
    · rw [pU_s, pU_s]
    · exact (pU_c _ _ _ _ (by decide)).trans (x1 3 11 (by decide) (by decide))
  by_cases k1 : σ 5 i = 1
  · obtain ⟨t91, t92⟩ := t1 (by omega)
    have r9 : σ 9 i = (rec i).2.2.2.2.1 := by
      rcases r89 with ⟨q, -⟩ | ⟨-, -, q⟩
      · omega
      · exact q
    have r10' : σ 10 i = (rec i).2.2.2.2.2.1 := by
      rcases r10 with ⟨-, q⟩ | ⟨q, -⟩
      · exact q
      · omega
    rcases w3 with ⟨-, v9, v10⟩ | ⟨q, -⟩
    · have e6 := ko_1 (c := σ1 6 i) (by rw [x1 6 i (by decide) (by decide), r6, ← w7, ← r5]; exact k1)
      obtain ⟨v, c1, c2⟩ := c_rk1 i20 (vr σ (σ 12 i) (σ 9 i)) (vr σ (σ 13 i) (σ 10 i)) (τ1 := τ1) e6
      rw [if_neg (by omega), if_neg (by omega), c1, Option.bind_some, if_neg k0, if_pos k1, t91, ← r9, rb (σ 9 i) τ1 (by omega) hMR1 (fun x => y1 85 x (by decide) (by decide)) (fun x _ => y1 120 x (by decide) (by decide)) d1, Option.bind_some]
      dsimp only
      rw [y1 92 i (by decide) (by decide), t92, ← r10', rb (σ 10 i) τ1 (by omega) hMR1 (fun x => y1 85 x (by decide) (by decide)) (fun x _ => y1 120 x (by decide) (by decide)) d2, Option.bind_some]
      dsimp only
      rw [t89, ← r6, ← x1 6 i (by decide) (by decide), ← so1, ← so2, c2, Option.bind_some]
      refine ⟨_, _, rfl, rfl, done _ _ (FR.u (by unfold P_fin; omega)) (FR.u (by unfold Q_fin; omega)) ?_ ?_ ?_ ?_ ?_ (fun q => by omega) (fun q => by omega), (a1.tr (FR.u (by unfold P_fin; omega))).mono PNf, (b1.tr (FR.u (by unfold Q_fin; omega))).mono QNf, ?_⟩
      · rw [pU_c _ _ _ _ (by decide)]; exact x39
      · rw [pU_c _ _ _ _ (by decide)]; exact x34
      · rw [pU_c _ _ _ _ (by decide)]; exact y118
      · rw [pU_c _ _ _ _ (by decide)]; exact y122
      · rw [pU_s, pU_s]
      · exact (pU_c _ _ _ _ (by decide)).trans (x1 3 11 (by decide) (by decide))
    · omega
  have k2 : 2 ≤ σ 5 i := by omega
  obtain ⟨t93, t94⟩ := t2 (by omega)
  have r10' : σ 10 i = (rec i).2.2.2.2.2.2.1 := by
    rcases r10 with ⟨q, -⟩ | ⟨-, q⟩
    · omega
    · exact q
  have vb : -1 ≤ (rec i).2.2.2.2.2.2.1 ∧ (rec i).2.2.2.2.2.2.1 ≤ 7 := by
    rcases w4 with ⟨-, -, q⟩ | ⟨q, -⟩
    · exact q
    · omega
  have pl : ∃ p, f_Prog_placeBy_4 (i : Int) (vr σ (σ 13 i) (σ 10 i)) σ1 = some (p, σ1) ∧ f_M_placeBy_84 (i : Int) τ1 = some (p, τ1) := by
    unfold f_Prog_placeBy_4 f_M_placeBy_84
    simp only [if_pos g, Int.toNat_natCast]
    rw [y1 94 i (by decide) (by decide), y1 95 i (by decide) (by decide), t94, t95 (by omega), ← r10', x1 11 i (by decide) (by decide), r11]
    by_cases hb : σ 10 i = -1
    · have : vr σ (σ 13 i) (σ 10 i) = 0 := by
        rw [so2, hb]
        rfl
      rw [if_pos hb, this]
      exact ⟨_, rfl, rfl⟩
    · rw [if_neg hb, rb (σ 10 i) τ1 (by omega) hMR1 (fun x => y1 85 x (by decide) (by decide)) (fun x _ => y1 120 x (by decide) (by decide)) d2, Option.bind_some]
      dsimp only
      rw [y1 95 i (by decide) (by decide), t95 (by omega), so2]
      exact ⟨_, rfl, rfl⟩
  obtain ⟨p, p1, p2⟩ := pl
  obtain ⟨sz1, sz2⟩ := hG.sz hi k2
  have fx : FR (P_fin i) σ1 (pU σ1 37 i p) := FR.u (by unfold P_fin; omega)
  have fy : FR (Q_fin i) τ1 (pU τ1 121 i p) := FR.u (by unfold Q_fin; omega)
  rw [p1, p2, Option.bind_some, Option.bind_some, Option.bind_some]
  by_cases k3 : σ 5 i = 2
  · rw [if_pos k3, if_neg k0, if_neg k1, if_pos k3]
    dsimp only
    obtain ⟨s, hs, hs4⟩ : ∃ s : Nat, σ 7 i = (s : Int) ∧ s ≤ 4 := ⟨(σ 7 i).toNat, by omega, by omega⟩
    have fy2 : FR (Q_fin i) (pU τ1 121 i p) (pU (pU τ1 121 i p) 120 i 0) := FR.u (by unfold Q_fin; omega)
    have FX := a1.tr fx
    have FY := (b1.tr fy).tr fy2
    have hB : BL i (pU σ1 37 i p) (pU (pU τ1 121 i p) 120 i 0) := fun k hk => by
      have kk := hG.kd (show k < m by omega)
      have sk := h.st k (by omega)
      rw [FX.get (k := 5) (x := k) (by unfold P_fin; omega), FX.get (k := 39) (x := k) (by unfold P_fin; omega), FX.get (k := 7) (x := k) (by unfold P_fin; omega), FX.get (k := 37) (x := k) (by unfold P_fin; omega), FX.get (k := 36) (x := k) (by unfold P_fin; omega), FY.get (k := 88) (x := k) (by unfold Q_fin; omega), FY.get (k := 118) (x := k) (by unfold Q_fin; omega), FY.get (k := 93) (x := k) (by unfold Q_fin; omega), FY.get (k := 121) (x := k) (by unfold Q_fin; omega), FY.get (k := 120) (x := k) (by unfold Q_fin; omega)]
      refine ⟨kk.1, sk.1.symm, fun q => ?_, fun q q2 => ?_⟩
      · have z := hG.sz (show k < m by omega) (by omega)
        exact ⟨z.1, by omega⟩
      · have z := h.va k (by omega) (h.dn k (by omega) q2)
        exact ⟨(z.2.2.1 (by omega)).symm, z.1.symm⟩
    obtain ⟨σ9, τ9, v9, q1, q2, q3, q4, q5, q6⟩ := tb_lp i20 hs4 s 0 4096 4096 (pU σ1 37 i p) (pU (pU τ1 121 i p) 120 i 0) 0 (by omega) (by omega) (by omega) ((FX.get (k := 7) (by unfold P_fin; omega)).trans hs) ((FY.get (k := 93) (by unfold Q_fin; omega)).trans (sz1.trans hs)) (by rw [pU_c _ _ _ _ (by decide), pU_s, pU_s]) hB (fun x hx => by rw [FX.get (k := 26) (by unfold P_fin; omega), FY.get (k := 127) (by unfold Q_fin; omega)]; exact h.m0 x hx) (pU_s _ _ _ _) (fun q hq => absurd hq (Nat.not_lt_zero _))
    have eT : f_Mach_takeBytes_3 (i : Int) (pU σ1 37 i p) = some (0, pU σ9 36 i v9) := q1
    have eL : f_M_loads_84 (i : Int) (pU τ1 121 i p) = some (0, τ9) := by
      unfold f_M_loads_84
      rw [if_pos g, Int.toNat_natCast]
      exact q2
    rw [eT, eL, Option.bind_some, Option.bind_some]
    have ux : FR (P_fin i) (pU σ1 37 i p) (pU σ9 36 i v9) := (q5.mono (fun k x z => by unfold P_tb at z; unfold P_fin; omega)).tr (FR.u (by unfold P_fin; omega))
    have uy : FR (Q_fin i) (pU (pU τ1 121 i p) 120 i 0) τ9 := q6.mono (fun k x z => by unfold Q_tb at z; unfold Q_fin; omega)
    have o39 : σ9 39 i = 2 := by rw [q5.get (k := 39) (by unfold P_tb; omega), pU_c _ _ _ _ (by decide)]; exact x39
    have o34 : σ9 34 i = σ 3 11 := by rw [q5.get (k := 34) (by unfold P_tb; omega), pU_c _ _ _ _ (by decide)]; exact x34
    have o37 : σ9 37 i = p := by rw [q5.get (k := 37) (by unfold P_tb; omega), pU_s]
    have o118 : τ9 118 i = 2 := by rw [q6.get (k := 118) (by unfold Q_tb; omega), pU_c _ _ _ _ (by decide), pU_c _ _ _ _ (by decide)]; exact y118
    have o122 : τ9 122 i = σ 3 11 := by rw [q6.get (k := 122) (by unfold Q_tb; omega), pU_c _ _ _ _ (by decide), pU_c _ _ _ _ (by decide)]; exact y122
    have o121 : τ9 121 i = p := by rw [q6.get (k := 121) (by unfold Q_tb; omega), pU_c _ _ _ _ (by decide), pU_s]
    have o3 : σ9 3 11 = σ 3 11 := by rw [q5.get (k := 3) (by unfold P_tb; omega), pU_c _ _ _ _ (by decide)]; exact x1 3 11 (by decide) (by decide)
    refine ⟨pU σ9 36 i v9, τ9, rfl, rfl, done (pU σ9 36 i v9) τ9 (fx.tr ux) ((fy.tr fy2).tr uy) ?_ ?_ o118 o122 ?_ (fun _ => ?_) (fun _ e he => ?_), (a1.tr (fx.tr ux)).mono PNf, (b1.tr ((fy.tr fy2).tr uy)).mono QNf, ?_⟩
    · rw [pU_c _ _ _ _ (by decide)]; exact o39
    · rw [pU_c _ _ _ _ (by decide)]; exact o34
    · rw [pU_s, q3]
    · rw [pU_c _ _ _ _ (by decide), o37, o121]
    · rw [pU_c _ _ _ _ (by decide)]
      obtain ⟨z1, z2⟩ := q4 e (by rw [hs] at he; omega)
      refine ⟨z1, ?_⟩
      rcases z2 with z | ⟨j, u1, u2, u3⟩
      · exact Or.inl z
      · exact Or.inr ⟨j, u1, u2, by rw [← FX.get (k := 5) (x := j) (by unfold P_fin; omega)]; exact u3⟩
    · rw [pU_c _ _ _ _ (by decide)]; exact o3
  · have k4 : σ 5 i = 3 := by omega
    rw [if_neg k3, if_pos k4, if_neg k0, if_neg k1, if_neg k3]
    dsimp only
    have r9 : σ 9 i = (rec i).2.2.2.1 := by
      rcases r89 with ⟨-, -, q⟩ | ⟨q, -⟩
      · exact q
      · omega
    have e7 : pU σ1 37 i p 7 i = σ 7 i := (pU_c _ _ _ _ (by decide)).trans (x1 7 i (by decide) (by decide))
    obtain ⟨v, c1, c2⟩ := c_cut i20 (vr σ (σ 12 i) (σ 9 i)) (σ1 := pU σ1 37 i p) (τ1 := pU τ1 121 i p) (by rw [e7]; exact sz2)
    have hMR2 : ∀ j, j < m → MRp (pU τ1 121 i p) j (rec j) := fun j hj => by
      have z := hMR1 j hj
      unfold MRp at *
      rw [pU_c _ _ _ _ (by decide), pU_c _ _ _ _ (by decide), pU_c _ _ _ _ (by decide), pU_c _ _ _ _ (by decide), pU_c _ _ _ _ (by decide), pU_c _ _ _ _ (by decide), pU_c _ _ _ _ (by decide), pU_c _ _ _ _ (by decide)]
      exact z
    rw [c1, Option.bind_some, Option.bind_some]
    dsimp only
    rw [y1 90 i (by decide) (by decide), t90, ← r9, rb (σ 9 i) (pU τ1 121 i p) (by omega) hMR2 (fun x => (pU_c _ _ _ _ (by decide)).trans (y1 85 x (by decide) (by decide))) (fun x _ => (pU_c _ _ _ _ (by decide)).trans (y1 120 x (by decide) (by decide))) d1, Option.bind_some]
    dsimp only
    rw [pU_c τ1 _ _ _ (show (93 : Nat) ≠ 121 by decide), y1 93 i (by decide) (by decide), sz1, ← e7, ← so1, c2, Option.bind_some]
    dsimp only
    have ux : FR (P_fin i) σ1 (pU (pU σ1 37 i p) 36 i v) := fx.tr (FR.u (by unfold P_fin; omega))
    have uy : FR (Q_fin i) τ1 (pU (pU τ1 121 i p) 120 i v) := fy.tr (FR.u (by unfold Q_fin; omega))
    have H3 : RN m rec (fun k => D k ∨ k = i) (pU (pU σ1 37 i p) 36 i v) (pU (pU τ1 121 i p) 120 i v) := by
      refine done _ _ ux uy ?_ ?_ ?_ ?_ ?_ (fun _ => ?_) (fun q => absurd q k3)
      · rw [pU_c _ _ _ _ (by decide), pU_c _ _ _ _ (by decide)]; exact x39
      · rw [pU_c _ _ _ _ (by decide), pU_c _ _ _ _ (by decide)]; exact x34
      · rw [pU_c _ _ _ _ (by decide), pU_c _ _ _ _ (by decide)]; exact y118
      · rw [pU_c _ _ _ _ (by decide), pU_c _ _ _ _ (by decide)]; exact y122
      · rw [pU_s, pU_s]
      · rw [pU_c _ _ _ _ (by decide), pU_s, pU_c _ _ _ _ (by decide), pU_s]
    have k5 : pU (pU σ1 37 i p) 36 i v 5 i = 3 := by rw [pU_c _ _ _ _ (by decide), pU_c _ _ _ _ (by decide), x1 5 i (by decide) (by decide)]; exact k4
    obtain ⟨σ9, τ9, q1, q2, q3, q4, q5, q6, q7, q8, q9⟩ := lb_ls H3.g H3.r H3.t H3.v H3.w hi (Or.inr rfl) k5
    rw [q1, q2, Option.bind_some, Option.bind_some]
    refine ⟨σ9, τ9, rfl, rfl, ⟨q3, q4, q5, q6, q7⟩, ((a1.tr ux).mono PNf).tr (q8.mono P_lb_N), ((b1.tr uy).mono QNf).tr (q9.mono Q_lb_N), ?_⟩
    rw [q8.get (k := 3) (by unfold P_lb P_rq P_mw P_un P_ml; omega), pU_c _ _ _ _ (by decide), pU_c _ _ _ _ (by decide), x1 3 11 (by decide) (by decide)]
end FI
