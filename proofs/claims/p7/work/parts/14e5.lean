def P_re (i k x : Nat) : Prop := (k = 42 ∧ 4 * i ≤ x ∧ x < 4 * i + 4) ∨ k = 30 ∨ (k = 41 ∧ x = i)
def Q_re (i k x : Nat) : Prop := (k = 125 ∧ 4 * i ≤ x ∧ x < 4 * i + 4) ∨ k = 128 ∨ ((k = 126 ∨ k = 132) ∧ x = i)
theorem RM.sre {m : Nat} {D : Nat → Prop} {σ τ σ' τ' : pS} {i : Nat} (h : RM m D σ τ) (a1 : FR (P_re i) σ σ') (a2 : FR (Q_re i) τ τ') (gz : ∀ j, j < m → 2 ≤ σ 5 j → σ 7 j ≤ 4) (g0 : σ 5 i = 3) (g1 : σ' 41 i = 1) (g2 : τ' 126 i = 1) (g3 : τ' 132 i = σ 37 i) (g4 : ∀ e : Nat, (e : Int) < σ 7 i → σ' 42 (4 * i + e) = τ' 125 (4 * i + e)) (g5 : ∀ x, x < 64 → σ' 30 x = τ' 128 x) : RM m D σ' τ' := ⟨fun j hj => by rw [a1.get (k := 39) (x := j) (by unfold P_re; omega), a2.get (k := 118) (x := j) (by unfold Q_re; omega)]; exact h.st j hj,
  fun j hj q => by rw [a1.get (k := 39) (x := j) (by unfold P_re; omega)] at q; rw [a1.get (k := 40) (x := j) (by unfold P_re; omega), a2.get (k := 119) (x := j) (by unfold Q_re; omega)]; exact h.ti j hj q,
  fun j hj => by
    by_cases hji : j = i
    · rw [hji, g1, g2]; exact ⟨rfl, by decide, by decide⟩
    · rw [a1.get (k := 41) (x := j) (by unfold P_re; omega), a2.get (k := 126) (x := j) (by unfold Q_re; omega)]; exact h.rt j hj,
  fun j hj q => by
    rw [a1.get (k := 5) (x := j) (by unfold P_re; omega), a1.get (k := 37) (x := j) (by unfold P_re; omega), a1.get (k := 7) (x := j) (by unfold P_re; omega)]
    by_cases hji : j = i
    · rw [hji]; exact ⟨g0, g3, g4⟩
    · rw [a1.get (k := 41) (x := j) (by unfold P_re; omega)] at q
      have z := h.re j hj q
      have gg := gz j hj (by omega)
      rw [a2.get (k := 132) (x := j) (by unfold Q_re; omega)]
      exact ⟨z.1, z.2.1, fun e he => by
        have h4 : (e : Int) < 4 := Int.lt_of_lt_of_le he gg
        rw [a1.get (k := 42) (x := 4 * j + e) (by unfold P_re; omega), a2.get (k := 125) (x := 4 * j + e) (by unfold Q_re; omega)]; exact z.2.2 e he⟩,
  fun j hj q => by have z := h.va j hj q; rw [a1.get (k := 36) (x := j) (by unfold P_re; omega), a1.get (k := 34) (x := j) (by unfold P_re; omega), a1.get (k := 5) (x := j) (by unfold P_re; omega), a1.get (k := 37) (x := j) (by unfold P_re; omega), a1.get (k := 7) (x := j) (by unfold P_re; omega), a2.get (k := 120) (x := j) (by unfold Q_re; omega), a2.get (k := 122) (x := j) (by unfold Q_re; omega), a2.get (k := 121) (x := j) (by unfold Q_re; omega)]; exact ⟨z.1, z.2.1, z.2.2.1, fun k e he => by rw [a1.get (k := 38) (x := 4 * j + e) (by unfold P_re; omega), a2.get (k := 124) (x := 4 * j + e) (by unfold Q_re; omega)]; exact z.2.2.2 k e he⟩,
  fun j hj q => by rw [a1.get (k := 39) (x := j) (by unfold P_re; omega)] at q; exact h.dn j hj q,
  fun j hj q => by rw [a1.get (k := 39) (x := j) (by unfold P_re; omega)] at q; rw [a1.get (k := 12) (x := j) (by unfold P_re; omega), a1.get (k := 13) (x := j) (by unfold P_re; omega)]; exact h.so j hj q,
  fun j hj => by rw [a1.get (k := 35) (x := j) (by unfold P_re; omega), a2.get (k := 123) (x := j) (by unfold Q_re; omega)]; exact h.rp j hj,
  g5,
  fun j hj => by rw [a1.get (k := 26) (x := j) (by unfold P_re; omega), a2.get (k := 127) (x := j) (by unfold Q_re; omega)]; exact h.m0 j hj,
  fun j hj => by rw [a1.get (k := 31) (x := j) (by unfold P_re; omega), a2.get (k := 87) (x := j) (by unfold Q_re; omega)]; exact h.se j hj,
  by rw [a1.get (k := 28) (x := 3) (by unfold P_re; omega), a2.get (k := 84) (x := 3) (by unfold Q_re; omega)]; exact h.ns,
  by rw [a1.get (k := 28) (x := 5) (by unfold P_re; omega), a2.get (k := 84) (x := 0) (by unfold Q_re; omega)]; exact h.x,
  by rw [a1.get (k := 33) (x := 2) (by unfold P_re; omega), a2.get (k := 84) (x := 65) (by unfold Q_re; omega)]; exact h.cr,
  by rw [a1.get (k := 33) (x := 3) (by unfold P_re; omega), a2.get (k := 84) (x := 66) (by unfold Q_re; omega)]; exact h.ca,
  by rw [a1.get (k := 33) (x := 4) (by unfold P_re; omega), a2.get (k := 84) (x := 67) (by unfold Q_re; omega)]; exact h.cu,
  by rw [a1.get (k := 33) (x := 5) (by unfold P_re; omega), a2.get (k := 84) (x := 68) (by unfold Q_re; omega)]; exact h.cd,
  by rw [a1.get (k := 24) (x := 4) (by unfold P_re; omega), a2.get (k := 84) (x := 1) (by unfold Q_re; omega)]; exact h.ru,
  fun j hj => by rw [a1.get (k := 25) (x := j) (by unfold P_re; omega), a2.get (k := 85) (x := j) (by unfold Q_re; omega)]; exact h.rg j hj,
  fun j hj h20 => by rw [a1.get (k := 31) (x := j) (by unfold P_re; omega)]; exact h.sh j hj h20⟩
theorem pAnd_63e (a : Int) : pAnd (pw a) 63 = a % 64 := by
  show ((Int32.ofInt (pw a)).toBitVec &&& 63#32).toInt = _
  have hb : (pw a) % 4294967296 = a % 4294967296 := Int.bmod_emod ..
  have h : ((Int32.ofInt (pw a)).toBitVec &&& 63#32).toNat = (a % 4294967296).toNat % 64 := by
    rw [BitVec.toNat_and]
    show (BitVec.ofInt 32 (pw a)).toNat &&& 63 = _
    rw [BitVec.toNat_ofInt]
    show ((pw a) % 4294967296).toNat &&& 63 = _
    rw [hb]
    exact Nat.and_two_pow_sub_one_eq_mod _ 6
  have h6 : ((Int32.ofInt (pw a)).toBitVec &&& 63#32).toNat < 64 := by rw [h]; exact Nat.mod_lt _ (by decide)
  rw [BitVec.toInt_eq_toNat_of_lt (by omega), h]
  omega
theorem atk_e (p : Int) (e : Nat) : atk p e = (p + (e : Int)) % 64 := pAnd_63e _
theorem atk_ne {p : Int} {e q : Nat} (h : e ≠ q) (he : e < 4) (hq : q < 4) : (atk p e).toNat ≠ (atk p q).toNat := by
  rw [atk_e, atk_e]
  omega
/-- a byte of a value, and a memory with the first bytes put -/
def yb (v : Int) (e : Nat) : Int := pAnd (pUsh v (pw (8 * (e : Int)))) 255
def ub (p v : Int) (M : Nat → Int) : Nat → Nat → Int
  | 0, x => M x
  | e + 1, x => if x = (atk p e).toNat then yb v e else ub p v M e x
theorem ub_o {p v : Int} {M : Nat → Int} : ∀ (e q : Nat), e ≤ q → q < 4 → ub p v M e (atk p q).toNat = M (atk p q).toNat
  | 0, _, _, _ => rfl
  | e + 1, q, h, h4 => by
    show (if (atk p q).toNat = (atk p e).toNat then _ else _) = _
    rw [if_neg (atk_ne (by omega) h4 (by omega))]
    exact ub_o e q (by omega) h4
theorem ub_cg {p v : Int} {M N : Nat → Int} (h : ∀ x, x < 64 → M x = N x) : ∀ e x, x < 64 → ub p v M e x = ub p v N e x
  | 0, x, hx => h x hx
  | e + 1, x, hx => by
    show (if x = (atk p e).toNat then _ else _) = (if x = (atk p e).toNat then _ else _)
    rw [ub_cg h e x hx]
theorem pb_28 {p v : Int} {s : Nat} {M : Nat → Int} (hs : s ≤ 4) : ∀ (d e fu : Nat) (σ : pS), e + d = s → d < fu → (∀ x, σ 30 x = ub p v M e x) → ∃ σ', f_State_putBytes_28_p3 fu p (s : Int) v (e : Int) σ = some (0, σ') ∧ FR (fun k _ => k = 30) σ σ' ∧ ∀ x, σ' 30 x = ub p v M s x
  | 0, e, fu, σ, he, hf, hm => by
    obtain ⟨n, rfl⟩ : ∃ n, fu = n + 1 := ⟨fu - 1, by omega⟩
    obtain rfl : e = s := by omega
    refine ⟨σ, ?_, FR.rf _ _, hm⟩
    show (if (e : Int) ≤ (e : Int) then _ else _) = _
    rw [if_pos (Int.le_refl _)]
  | d + 1, e, fu, σ, he, hf, hm => by
    obtain ⟨n, rfl⟩ : ∃ n, fu = n + 1 := ⟨fu - 1, by omega⟩
    have f1 : FR (fun k _ => k = 30) σ (pU σ 30 (atk p e).toNat (yb v e)) := FR.u rfl
    obtain ⟨σ', q1, q2, q3⟩ := pb_28 (p := p) (v := v) (M := M) hs d (e + 1) n (pU σ 30 (atk p e).toNat (yb v e)) (by omega) (by omega) (fun x => by
      show _ = (if x = (atk p e).toNat then yb v e else ub p v M e x)
      by_cases hx : x = (atk p e).toNat
      · rw [if_pos hx, hx, pU_s]
      · rw [if_neg hx, pU_i _ _ _ _ hx]
        exact hm x)
    refine ⟨σ', ?_, f1.tr q2, q3⟩
    show (if (s : Int) ≤ (e : Int) then _ else _) = _
    rw [if_neg (by omega), if_pos (pAnd_63 _), pw_s (show e < 4 by omega) (by decide)]
    exact q1
/-- the class's store is retired: what lay there is kept, its bytes are put -/
theorem rt_68 {j s : Nat} {p v : Int} (hj : j < 20) (hs : s ≤ 4) : ∀ (d e fu : Nat) (σ : pS), e + d = s → d < fu → σ 7 j = (s : Int) → σ 37 j = p → σ 36 j = v → ∃ σ', f_Mach_retireOne_3_p68 fu (j : Int) (e : Int) σ = some (0, σ') ∧ FR (P_re j) σ σ' ∧ (∀ q, e ≤ q → q < s → σ' 42 (4 * j + q) = σ 30 (atk p q).toNat) ∧ (∀ q, q < e → σ' 42 (4 * j + q) = σ 42 (4 * j + q)) ∧ (∀ x, σ' 30 x = ub p v (σ 30) s x) ∧ σ' 41 j = 1
  | 0, e, fu, σ, he, hf, h7, hp, hv => by
    obtain ⟨n, rfl⟩ : ∃ n, fu = n + 1 := ⟨fu - 1, by omega⟩
    have g : (0 : Int) ≤ (j : Int) ∧ (j : Int) < 20 := by omega
    obtain ⟨σ1, q1, q2, q3⟩ := pb_28 (p := p) (v := v) (M := σ 30) hs s 0 4096 σ (by omega) (by omega) (fun x => rfl)
    have q1 : f_State_putBytes_28 p (s : Int) v σ = some (0, σ1) := q1
    refine ⟨pU σ1 41 j 1, ?_, (q2.mono (fun k x h => by unfold P_re; omega)).tr (FR.u (by unfold P_re; omega)), fun q a b => by omega, fun q a => ?_, fun x => ?_, pU_s _ _ _ _⟩
    · show (if (0 : Int) ≤ (j : Int) ∧ (j : Int) < 20 then _ else _) = _
      rw [if_pos g, Int.toNat_natCast, h7, if_pos (by omega), if_pos g, if_pos g, if_pos g, hp, hv, q1]
      show (if (0 : Int) ≤ (j : Int) ∧ (j : Int) < 20 then _ else _) = _
      rw [if_pos g]
    · rw [pU_c _ _ _ _ (by decide)]
      exact q2.get (by decide)
    · rw [pU_c _ _ _ _ (by decide)]
      exact q3 x
  | d + 1, e, fu, σ, he, hf, h7, hp, hv => by
    obtain ⟨n, rfl⟩ : ∃ n, fu = n + 1 := ⟨fu - 1, by omega⟩
    have g : (0 : Int) ≤ (j : Int) ∧ (j : Int) < 20 := by omega
    have he4 : e < 4 := by omega
    have eX : f_Mach_retireOne_3_p68 (n + 1) (j : Int) (e : Int) σ = f_Mach_retireOne_3_p68 n (j : Int) ((e + 1 : Nat) : Int) (pU σ 42 (4 * j + e) (σ 30 (atk p e).toNat)) := by
      show (if (0 : Int) ≤ (j : Int) ∧ (j : Int) < 20 then _ else _) = _
      rw [if_pos g, Int.toNat_natCast, h7, if_neg (by omega), if_pos g, (ix4 hj he4).1, if_pos (pAnd_63 _), if_pos (ix4 hj he4).2.2, Int.toNat_natCast, pw_s he4 (by decide), hp]
      rfl
    have f1 : FR (P_re j) σ (pU σ 42 (4 * j + e) (σ 30 (atk p e).toNat)) := FR.u (by unfold P_re; omega)
    obtain ⟨σ', q1, q2, q3, q4, q5, q6⟩ := rt_68 (p := p) (v := v) hj hs d (e + 1) n (pU σ 42 (4 * j + e) (σ 30 (atk p e).toNat)) (by omega) (by omega) (by rw [pU_c _ _ _ _ (by decide)]; exact h7) (by rw [pU_c _ _ _ _ (by decide)]; exact hp) (by rw [pU_c _ _ _ _ (by decide)]; exact hv)
    have e30 : (pU σ 42 (4 * j + e) (σ 30 (atk p e).toNat)) 30 = σ 30 := funext (fun x => pU_c _ _ _ _ (by decide))
    rw [e30] at q3 q5
    refine ⟨σ', eX.trans q1, f1.tr q2, fun q a b => ?_, fun q a => ?_, q5, q6⟩
    · by_cases hq : q = e
      · rw [hq, q4 e (by omega), pU_s]
      · exact q3 q (by omega) b
    · rw [q4 q (by omega), pU_i _ _ _ _ (by omega)]
/-- the reference's -/
theorem rt_m68 {j s : Nat} {p v : Int} {M : Nat → Int} (hj : j < 20) (hs : s ≤ 4) : ∀ (d e fu : Nat) (τ : pS), e + d = s → d < fu → τ 93 j = (s : Int) → τ 121 j = p → τ 120 j = v → (∀ x, τ 128 x = ub p v M e x) → ∃ τ', f_M_retires_84_p68 fu (j : Int) (e : Int) τ = some (0, τ') ∧ FR (Q_re j) τ τ' ∧ (∀ q, e ≤ q → q < s → τ' 125 (4 * j + q) = M (atk p q).toNat) ∧ (∀ q, q < e → τ' 125 (4 * j + q) = τ 125 (4 * j + q)) ∧ (∀ x, τ' 128 x = ub p v M s x) ∧ τ' 126 j = 1 ∧ τ' 132 j = τ 132 j
  | 0, e, fu, τ, he, hf, h7, hp, hv, hm => by
    obtain ⟨n, rfl⟩ : ∃ n, fu = n + 1 := ⟨fu - 1, by omega⟩
    have g : (0 : Int) ≤ (j : Int) ∧ (j : Int) < 20 := by omega
    obtain rfl : e = s := by omega
    refine ⟨pU τ 126 j 1, ?_, FR.u (by unfold Q_re; omega), fun q a b => by omega, fun q a => pU_c _ _ _ _ (by decide), fun x => ?_, pU_s _ _ _ _, pU_c _ _ _ _ (by decide)⟩
    · show (if (0 : Int) ≤ (j : Int) ∧ (j : Int) < 20 then _ else _) = _
      rw [if_pos g, Int.toNat_natCast, h7, if_pos (Int.le_refl _), if_pos g]
    · rw [pU_c _ _ _ _ (by decide)]
      exact hm x
  | d + 1, e, fu, τ, he, hf, h7, hp, hv, hm => by
    obtain ⟨n, rfl⟩ : ∃ n, fu = n + 1 := ⟨fu - 1, by omega⟩
    have g : (0 : Int) ≤ (j : Int) ∧ (j : Int) < 20 := by omega
    have he4 : e < 4 := by omega
    have hby : pAnd (pShr v (pw (8 * (e : Int)))) 255 = yb v e := bs_p v _ (by omega)
    have eX : f_M_retires_84_p68 (n + 1) (j : Int) (e : Int) τ = f_M_retires_84_p68 n (j : Int) ((e + 1 : Nat) : Int) (pU (pU τ 125 (4 * j + e) (τ 128 (atk p e).toNat)) 128 (atk p e).toNat (yb v e)) := by
      show (if (0 : Int) ≤ (j : Int) ∧ (j : Int) < 20 then _ else _) = _
      rw [if_pos g, Int.toNat_natCast, h7, if_neg (by omega), if_pos g, (ix4 hj he4).2.1, if_pos (pAnd_63 _), if_pos (ix4 hj he4).2.2, if_pos g, Int.toNat_natCast, hp, hv]
      show (if 0 ≤ pAnd (pw (p + (e : Int))) 63 ∧ pAnd (pw (p + (e : Int))) 63 < 64 then _ else _) = _
      rw [if_pos (pAnd_63 _), pw_s he4 (by decide), ← hby]
      rfl
    have f1 : FR (Q_re j) τ (pU (pU τ 125 (4 * j + e) (τ 128 (atk p e).toNat)) 128 (atk p e).toNat (yb v e)) := (FR.u (by unfold Q_re; omega)).tr (FR.u (by unfold Q_re; omega))
    obtain ⟨τ', q1, q2, q3, q4, q5, q6, q7⟩ := rt_m68 (p := p) (v := v) (M := M) hj hs d (e + 1) n (pU (pU τ 125 (4 * j + e) (τ 128 (atk p e).toNat)) 128 (atk p e).toNat (yb v e)) (by omega) (by omega) (by rw [pU_c _ _ _ _ (by decide), pU_c _ _ _ _ (by decide)]; exact h7) (by rw [pU_c _ _ _ _ (by decide), pU_c _ _ _ _ (by decide)]; exact hp) (by rw [pU_c _ _ _ _ (by decide), pU_c _ _ _ _ (by decide)]; exact hv) (fun x => by
      show _ = (if x = (atk p e).toNat then yb v e else ub p v M e x)
      by_cases hx : x = (atk p e).toNat
      · rw [if_pos hx, hx, pU_s]
      · rw [if_neg hx, pU_i _ _ _ _ hx, pU_c _ _ _ _ (by decide)]
        exact hm x)
    refine ⟨τ', eX.trans q1, f1.tr q2, fun q a b => ?_, fun q a => ?_, q5, q6, ?_⟩
    · by_cases hq : q = e
      · rw [hq, q4 e (by omega), pU_c _ _ _ _ (by decide), pU_s, hm]
        exact ub_o e e (Nat.le_refl _) he4
      · exact q3 q (by omega) b
    · rw [q4 q (by omega), pU_c _ _ _ _ (by decide), pU_i _ _ _ _ (by omega)]
    · rw [q7, pU_c _ _ _ _ (by decide), pU_c _ _ _ _ (by decide)]
