def P_re (i k x : Nat) : Prop := (k = 42 ∧ 4 * i ≤ x ∧ x < 4 * i + 4) ∨ k = 30 ∨ (k = 41 ∧ x = i)
def Q_re (i k x : Nat) : Prop := (k = 125 ∧ 4 * i ≤ x ∧ x < 4 * i + 4) ∨ k = 128 ∨ ((k = 126 ∨ k = 132) ∧ x = i)
theorem RM.sre {m : Nat} {D : Nat → Prop} {σ τ σ' τ' : pS} {i : Nat} (h : RM m D σ τ) (a1 : FR (P_re i) σ σ') (a2 : FR (Q_re i) τ τ') (gz : ∀ j, j < m → 2 ≤ σ 5 j → σ 7 j ≤ 4) (g0 : σ 5 i = 3) (g1 : σ' 41 i = 1) (g2 : τ' 126 i = 1) (g3 : τ' 132 i = σ 37 i) (g4 : ∀ e : Nat, (e : Int) < σ 7 i → σ' 42 (4 * i + e) = τ' 125 (4 * i + e)) (g5 : ∀ x, x < 64 → σ' 30 x = τ' 128 x) : RM m D σ' τ' := ⟨fun j hj => by rw [a1.get (k := 39) (x := j) (by unfold P_re; omega), a2.get (k := 118) (x := j) (by unfold Q_re; omega)]; exact h.st j hj,
  fun j hj q => by rw [a1.get (k := 39) (x := j) (by unfold P_re; omega)] at q; rw [a1.get (k := 40) (x := j) (by unfold P_re; omega), a2.get (k := 119) (x := j) (by unfold Q_re; omega)]; exact h.ti j hj q,
  fun j hj => by
    by_cases hji : j = i
    · rw [hji, g1, g2]; exact ⟨rfl, by decide, by decide⟩
    · rw [a1.get (k := 41) (x := j) (by unfold P_re; omega), a2.get (k := 126) (x := j) (by unfold Q_re; omega)]; exact h.rt j hj,
  fun j hj q => by
    rw [a1.get (k := 5) (x := j) (by unfold P_re; omega), a1.get (k := 37) (x := j) (by unfold P_re; omega), a1.get (k := 7) (x := j) (by unfold P_re; omega)]
    by_cases hji : j = i
    · rw [hji]; exact ⟨g0, g3, g4⟩
    · rw [a1.get (k := 41) (x := j) (by unfold P_re; omega)] at q
      have z := h.re j hj q
      have gg := gz j hj (by omega)
      rw [a2.get (k := 132) (x := j) (by unfold Q_re; omega)]
      exact ⟨z.1, z.2.1, fun e he => by
        have h4 : (e : Int) < 4 := Int.lt_of_lt_of_le he gg
        rw [a1.get (k := 42) (x := 4 * j + e) (by unfold P_re; omega), a2.get (k := 125) (x := 4 * j + e) (by unfold Q_re; omega)]; exact z.2.2 e he⟩,
  fun j hj q => by have z := h.va j hj q; rw [a1.get (k := 36) (x := j) (by unfold P_re; omega), a1.get (k := 34) (x := j) (by unfold P_re; omega), a1.get (k := 5) (x := j) (by unfold P_re; omega), a1.get (k := 37) (x := j) (by unfold P_re; omega), a1.get (k := 7) (x := j) (by unfold P_re; omega), a2.get (k := 120) (x := j) (by unfold Q_re; omega), a2.get (k := 122) (x := j) (by unfold Q_re; omega), a2.get (k := 121) (x := j) (by unfold Q_re; omega)]; exact ⟨z.1, z.2.1, z.2.2.1, fun k e he => by rw [a1.get (k := 38) (x := 4 * j + e) (by unfold P_re; omega), a2.get (k := 124) (x := 4 * j + e) (by unfold Q_re; omega)]; exact z.2.2.2 k e he⟩,
  fun j hj q => by rw [a1.get (k := 39) (x := j) (by unfold P_re; omega)] at q; exact h.dn j hj q,
  fun j hj q => by rw [a1.get (k := 39) (x := j) (by unfold P_re; omega)] at q; rw [a1.get (k := 12) (x := j) (by unfold P_re; omega), a1.get (k := 13) (x := j) (by unfold P_re; omega)]; exact h.so j hj q,
  fun j hj => by rw [a1.get (k := 35) (x := j) (by unfold P_re; omega), a2.get (k := 123) (x := j) (by unfold Q_re; omega)]; exact h.rp j hj,
  g5,
  fun j hj => by rw [a1.get (k := 26) (x := j) (by unfold P_re; omega), a2.get (k := 127) (x := j) (by unfold Q_re; omega)]; exact h.m0 j hj,
  fun j hj => by rw [a1.get (k := 31) (x := j) (by unfold P_re; omega), a2.get (k := 87) (x := j) (by unfold Q_re; omega)]; exact h.se j hj,
  by rw [a1.get (k := 28) (x := 3) (by unfold P_re; omega), a2.get (k := 84) (x := 3) (by unfold Q_re; omega)]; exact h.ns,
  by rw [a1.get (k := 28) (x := 5) (by unfold P_re; omega), a2.get (k := 84) (x := 0) (by unfold Q_re; omega)]; exact h.x,
  by rw [a1.get (k := 33) (x := 2) (by unfold P_re; omega), a2.get (k := 84) (x := 65) (by unfold Q_re; omega)]; exact h.cr,
  by rw [a1.get (k := 33) (x := 3) (by unfold P_re; omega), a2.get (k := 84) (x := 66) (by unfold Q_re; omega)]; exact h.ca,
  by rw [a1.get (k := 33) (x := 4) (by unfold P_re; omega), a2.get (k := 84) (x := 67) (by unfold Q_re; omega)]; exact h.cu,
  by rw [a1.get (k := 33) (x := 5) (by unfold P_re; omega), a2.get (k := 84) (x := 68) (by unfold Q_re; omega)]; exact h.cd,
  by rw [a1.get (k := 24) (x := 4) (by unfold P_re; omega), a2.get (k := 84) (x := 1) (by unfold Q_re; omega)]; exact h.ru,
  fun j hj => by rw [a1.get (k := 25) (x := j) (by unfold P_re; omega), a2.get (k := 85) (x := j) (by unfold Q_re; omega)]; exact h.rg j hj,
  fun j hj h20 => by rw [a1.get (k := 31) (x := j) (by unfold P_re; omega)]; exact h.sh j hj h20⟩
theorem pAnd_63e (a : Int) : pAnd (pw a) 63 = a % 64 := by
  show ((Int32.ofInt (pw a)).toBitVec &&& 63#32).toInt = _
  have hb : (pw a) % 4294967296 = a % 4294967296 := Int.bmod_emod ..
  have h : ((Int32.ofInt (pw a)).toBitVec &&& 63#32).toNat = (a % 4294967296).toNat % 64 := by
    rw [BitVec.toNat_and]
    show (BitVec.ofInt 32 (pw a)).toNat &&& 63 = _
    rw [BitVec.toNat_ofInt]
    show ((pw a) % 4294967296).toNat &&& 63 = _
    rw [hb]
    exact Nat.and_two_pow_sub_one_eq_mod _ 6
  have h6 : ((Int32.ofInt (pw a)).toBitVec &&& 63#32).toNat < 64 := by rw [h]; exact Nat.mod_lt _ (by decide)
  rw [BitVec.toInt_eq_toNat_of_lt (by omega), h]
  omega
theorem atk_e (p : Int) (e : Nat) : atk p e = (p + (e : Int)) % 64 := pAnd_63e _
theorem atk_ne {p : Int} {e q : Nat} (h : e ≠ q) (he : e < 4) (hq : q < 4) : (atk p e).toNat ≠ (atk p q).toNat := by
  rw [atk_e, atk_e]
  omega
/-- a byte of a value, and a memory with the first bytes put -/
def yb (v : Int) (e : Nat) : Int := pAnd (pUsh v (pw (8 * (e : Int)))) 255
def ub (p v : Int) (M : Nat → Int) : Nat → Nat → Int
  | 0, x => M x
  | e + 1, x => if x = (atk p e).toNat then yb v e else ub p v M e x
theorem ub_o {p v : Int} {M : Nat → Int} : ∀ (e q : Nat), e ≤ q → q < 4 → ub p v M e (atk p q).toNat = M (atk p q).toNat
  | 0, _, _, _ => rfl
  | e + 1, q, h, h4 => by
    show (if (atk p q).toNat = (atk p e).toNat then _ else _) = _
    rw [if_neg (atk_ne (by omega) h4 (by omega))]
    exact ub_o e q (by omega) h4
theorem ub_cg {p v : Int} {M N : Nat → Int} (h : ∀ x, x < 64 → M x = N x) : ∀ e x, x < 64 → ub p v M e x = ub p v N e x
  | 0, x, hx => h x hx
  | e + 1, x, hx => by
    show (if x = (atk p e).toNat then _ else _) = (if x = (atk p e).toNat then _ else _)
    rw [ub_cg h e x hx]
theorem pb_28 {p v : Int} {s : Nat} {M : Nat → Int} (hs : s ≤ 4) : ∀ (d e fu : Nat) (σ : pS), e + d = s → d < fu → (∀ x, σ 30 x = ub p v M e x) → ∃ σ', f_State_putBytes_28_p3 fu p (s : Int) v (e : Int) σ = some (0, σ') ∧ FR (fun k _ => k = 30) σ σ' ∧ ∀ x, σ' 30 x = ub p v M s x
  | 0, e, fu, σ, he, hf, hm => by
    obtain ⟨n, rfl⟩ : ∃ n, fu = n + 1 := ⟨fu - 1, by omega⟩
    obtain rfl : e = s := by omega
    refine ⟨σ, ?_, FR.rf _ _, hm⟩
    show (if (e : Int) ≤ (e : Int) then _ else _) = _
    rw [if_pos (Int.le_refl _)]
  | d + 1, e, fu, σ, he, hf, hm => by
    obtain ⟨n, rfl⟩ : ∃ n, fu = n + 1 := ⟨fu - 1, by omega⟩
    have f1 : FR (fun k _ => k = 30) σ (pU σ 30 (atk p e).toNat (yb v e)) := FR.u rfl
    obtain ⟨σ', q1, q2, q3⟩ := pb_28 (p := p) (v := v) (M := M) hs d (e + 1) n (pU σ 30 (atk p e).toNat (yb v e)) (by omega) (by omega) (fun x => by
      show _ = (if x = (atk p e).toNat then yb v e else ub p v M e x)
      by_cases hx : x = (atk p e).toNat
      · rw [if_pos hx, hx, pU_s]
      · rw [if_neg hx, pU_i _ _ _ _ hx]
        exact hm x)
    refine ⟨σ', ?_, f1.tr q2, q3⟩
    show (if (s : Int) ≤ (e : Int) then _ else _) = _
    rw [if_neg (by omega), if_pos (pAnd_63 _), pw_s (show e < 4 by omega) (by decide)]
    exact q1
/-- the class's store is retired: what lay there is kept, its bytes are put -/
theorem rt_68 {j s : Nat} {p v : Int} (hj : j < 20) (hs : s ≤ 4) : ∀ (d e fu : Nat) (σ : pS), e + d = s → d < fu → σ 7 j = (s : Int) → σ 37 j = p → σ 36 j = v → ∃ σ', f_Mach_retireOne_3_p68 fu (j : Int) (e : Int) σ = some (0, σ') ∧ FR (P_re j) σ σ' ∧ (∀ q, e ≤ q → q < s → σ' 42 (4 * j + q) = σ 30 (atk p q).toNat) ∧ (∀ q, q < e → σ' 42 (4 * j + q) = σ 42 (4 * j + q)) ∧ (∀ x, σ' 30 x = ub p v (σ 30) s x) ∧ σ' 41 j = 1
  | 0, e, fu, σ, he, hf, h7, hp, hv => by
    obtain ⟨n, rfl⟩ : ∃ n, fu = n + 1 := ⟨fu - 1, by omega⟩
    have g : (0 : Int) ≤ (j : Int) ∧ (j : Int) < 20 := by omega
    obtain ⟨σ1, q1, q2, q3⟩ := pb_28 (p := p) (v := v) (M := σ 30) hs s 0 4096 σ (by omega) (by omega) (fun x => rfl)
    have q1 : f_State_putBytes_28 p (s : Int) v σ = some (0, σ1) := q1
    refine ⟨pU σ1 41 j 1, ?_, (q2.mono (fun k x h => by unfold P_re; omega)).tr (FR.u (by unfold P_re; omega)), fun q a b => by omega, fun q a => ?_, fun x => ?_, pU_s _ _ _ _⟩
    · show (if (0 : Int) ≤ (j : Int) ∧ (j : Int) < 20 then _ else _) = _
      rw [if_pos g, Int.toNat_natCast, h7, if_pos (by omega), if_pos g, if_pos g, if_pos g, hp, hv, q1]
      show (if (0 : Int) ≤ (j : Int) ∧ (j : Int) < 20 then _ else _) = _
      rw [if_pos g]
    · rw [pU_c _ _ _ _ (by decide)]
      exact q2.get (by decide)
    · rw [pU_c _ _ _ _ (by decide)]
      exact q3 x
  | d + 1, e, fu, σ, he, hf, h7, hp, hv => by
    obtain ⟨n, rfl⟩ : ∃ n, fu = n + 1 := ⟨fu - 1, by omega⟩
    have g : (0 : Int) ≤ (j : Int) ∧ (j : Int) < 20 := by omega
    have he4 : e < 4 := by omega
    have eX : f_Mach_retireOne_3_p68 (n + 1) (j : Int) (e : Int) σ = f_Mach_retireOne_3_p68 n (j : Int) ((e + 1 : Nat) : Int) (pU σ 42 (4 * j + e) (σ 30 (atk p e).toNat)) := by
      show (if (0 : Int) ≤ (j : Int) ∧ (j : Int) < 20 then _ else _) = _
      rw [if_pos g, Int.toNat_natCast, h7, if_neg (by omega), if_pos g, (ix4 hj he4).1, if_pos (pAnd_63 _), if_pos (ix4 hj he4).2.2, Int.toNat_natCast, pw_s he4 (by decide), hp]
      rfl
    have f1 : FR (P_re j) σ (pU σ 42 (4 * j + e) (σ 30 (atk p e).toNat)) := FR.u (by unfold P_re; omega)
    obtain ⟨σ', q1, q2, q3, q4, q5, q6⟩ := rt_68 (p := p) (v := v) hj hs d (e + 1) n (pU σ 42 (4 * j + e) (σ 30 (atk p e).toNat)) (by omega) (by omega) (by rw [pU_c _ _ _ _ (by decide)]; exact h7) (by rw [pU_c _ _ _ _ (by decide)]; exact hp) (by rw [pU_c _ _ _ _ (by decide)]; exact hv)
    have e30 : (pU σ 42 (4 * j + e) (σ 30 (atk p e).toNat)) 30 = σ 30 := funext (fun x => pU_c _ _ _ _ (by decide))
    rw [e30] at q3 q5
    refine ⟨σ', eX.trans q1, f1.tr q2, fun q a b => ?_, fun q a => ?_, q5, q6⟩
    · by_cases hq : q = e
      · rw [hq, q4 e (by omega), pU_s]
      · exact q3 q (by omega) b
    · rw [q4 q (by omega), pU_i _ _ _ _ (by omega)]
/-- the reference's -/
theorem rt_m68 {j s : Nat} {p v : Int} {M : Nat → Int} (hj : j < 20) (hs : s ≤ 4) : ∀ (d e fu : Nat) (τ : pS), e + d = s → d < fu → τ 93 j = (s : Int) → τ 121 j = p → τ 120 j = v → (∀ x, τ 128 x = ub p v M e x) → ∃ τ', f_M_retires_84_p68 fu (j : Int) (e : Int) τ = some (0, τ') ∧ FR (Q_re j) τ τ' ∧ (∀ q, e ≤ q → q < s → τ' 125 (4 * j + q) = M (atk p q).toNat) ∧ (∀ q, q < e → τ' 125 (4 * j + q) = τ 125 (4 * j + q)) ∧ (∀ x, τ' 128 x = ub p v M s x) ∧ τ' 126 j = 1 ∧ τ' 132 j = τ 132 j
  | 0, e, fu, τ, he, hf, h7, hp, hv, hm => by
    obtain ⟨n, rfl⟩ : ∃ n, fu = n + 1 := ⟨fu - 1, by omega⟩
    have g : (0 : Int) ≤ (j : Int) ∧ (j : Int) < 20 := by omega
    obtain rfl : e = s := by omega
    refine ⟨pU τ 126 j 1, ?_, FR.u (by unfold Q_re; omega), fun q a b => by omega, fun q a => pU_c _ _ _ _ (by decide), fun x => ?_, pU_s _ _ _ _, pU_c _ _ _ _ (by decide)⟩
    · show (if (0 : Int) ≤ (j : Int) ∧ (j : Int) < 20 then _ else _) = _
      rw [if_pos g, Int.toNat_natCast, h7, if_pos (Int.le_refl _), if_pos g]
    · rw [pU_c _ _ _ _ (by decide)]
      exact hm x
  | d + 1, e, fu, τ, he, hf, h7, hp, hv, hm => by
    obtain ⟨n, rfl⟩ : ∃ n, fu = n + 1 := ⟨fu - 1, by omega⟩
    have g : (0 : Int) ≤ (j : Int) ∧ (j : Int) < 20 := by omega
    have he4 : e < 4 := by omega
    have hby : pAnd (pShr v (pw (8 * (e : Int)))) 255 = yb v e := bs_p v _ (by omega)
    have eX : f_M_retires_84_p68 (n + 1) (j : Int) (e : Int) τ = f_M_retires_84_p68 n (j : Int) ((e + 1 : Nat) : Int) (pU (pU τ 125 (4 * j + e) (τ 128 (atk p e).toNat)) 128 (atk p e).toNat (yb v e)) := by
      show (if (0 : Int) ≤ (j : Int) ∧ (j : Int) < 20 then _ else _) = _
      rw [if_pos g, Int.toNat_natCast, h7, if_neg (by omega), if_pos g, (ix4 hj he4).2.1, if_pos (pAnd_63 _), if_pos (ix4 hj he4).2.2, if_pos g, Int.toNat_natCast, hp, hv]
      show (if 0 ≤ pAnd (pw (p + (e : Int))) 63 ∧ pAnd (pw (p + (e : Int))) 63 < 64 then _ else _) = _
      rw [if_pos (pAnd_63 _), pw_s he4 (by decide), ← hby]
      rfl
    have f1 : FR (Q_re j) τ (pU (pU τ 125 (4 * j + e) (τ 128 (atk p e).toNat)) 128 (atk p e).toNat (yb v e)) := (FR.u (by unfold Q_re; omega)).tr (FR.u (by unfold Q_re; omega))
    obtain ⟨τ', q1, q2, q3, q4, q5, q6, q7⟩ := rt_m68 (p := p) (v := v) (M := M) hj hs d (e + 1) n (pU (pU τ 125 (4 * j + e) (τ 128 (atk p e).toNat)) 128 (atk p e).toNat (yb v e)) (by omega) (by omega) (by rw [pU_c _ _ _ _ (by decide), pU_c _ _ _ _ (by decide)]; exact h7) (by rw [pU_c _ _ _ _ (by decide), pU_c _ _ _ _ (by decide)]; exact hp) (by rw [pU_c _ _ _ _ (by decide), pU_c _ _ _ _ (by decide)]; exact hv) (fun x => by
      show _ = (if x = (atk p e).toNat then yb v e else ub p v M e x)
      by_cases hx : x = (atk p e).toNat
      · rw [if_pos hx, hx, pU_s]
      · rw [if_neg hx, pU_i _ _ _ _ hx, pU_c _ _ _ _ (by decide)]
        exact hm x)
    refine ⟨τ', eX.trans q1, f1.tr q2, fun q a b => ?_, fun q a => ?_, q5, q6, ?_⟩
    · by_cases hq : q = e
      · rw [hq, q4 e (by omega), pU_c _ _ _ _ (by decide), pU_s, hm]
        exact ub_o e e (Nat.le_refl _) he4
      · exact q3 q (by omega) b
    · rw [q4 q (by omega), pU_c _ _ _ _ (by decide), pU_i _ _ _ _ (by omega)]
    · rw [q7, pU_c _ _ _ _ (by decide), pU_c _ _ _ _ (by decide)]
section RT
variable {m mL : Nat} {rec : Nat → O8} {D : Nat → Prop} {c : Cd} {R : Nat → Ru} {σ τ σ' τ' : pS}
def PR (k x : Nat) : Prop := k = 30 ∨ k = 41 ∨ k = 42 ∨ (k = 33 ∧ x = 4)
def QR (k x : Nat) : Prop := k = 128 ∨ k = 126 ∨ k = 125 ∨ k = 132 ∨ (k = 84 ∧ x = 67)
theorem PR_N (k x : Nat) (h : PR k x) : PN k x := by unfold PR at h; unfold PN; omega
theorem QR_N (k x : Nat) (h : QR k x) : QN k x := by unfold QR at h; unfold QN; omega
theorem un_PR (k x : Nat) (h : P_un k x) : PR k x := by unfold P_un at h; unfold PR; omega
theorem un_QR (k x : Nat) (h : Q_un k x) : QR k x := by unfold Q_un at h; unfold QR; omega
theorem re_PR (i k x : Nat) (h : P_re i k x) : PR k x := by unfold P_re at h; unfold PR; omega
theorem re_QR (i k x : Nat) (h : Q_re i k x) : QR k x := by unfold Q_re at h; unfold QR; omega
theorem LW.n (h : LW mL c R σ τ) (h1 : FR PN σ σ') (h2 : FR QN τ τ') : LW mL c R σ' τ' := h.mv (h1.get (by unfold PN; omega)) (fun k x _ _ => h1.get (by unfold PN; omega)) (h2.get (by unfold QN; omega)) (fun k x _ _ => h2.get (by unfold QN; omega))
theorem RN.un (H : RN m rec D σ τ) (r : RM m D σ' τ') (a1 : FR P_un σ σ') (a2 : FR Q_un τ τ') (h41 : ∀ j, σ' 41 j = 0 ∨ σ' 41 j = σ 41 j) : RN m rec D σ' τ' := by
  refine ⟨H.g.fr (a1.mono P_un_N) (a2.mono Q_un_N), r, fun j hj q => ?_, H.v.fr (fun k x hk => a1.get (by unfold P_un; omega)), ?_⟩
  · rw [a1.get (k := 39) (by unfold P_un; omega)]
    rcases h41 j with z | z
    · omega
    · exact H.t j hj (z ▸ q)
  · unfold CW
    rw [a1.get (k := 33) (x := 1) (by unfold P_un; omega), a2.get (k := 84) (x := 64) (by unfold Q_un; omega)]
    exact H.w
theorem RN.re {i : Nat} (H : RN m rec D σ τ) (h2 : σ 39 i = 2) (r : RM m D σ' τ') (a1 : FR (P_re i) σ σ') (a2 : FR (Q_re i) τ τ') : RN m rec D σ' τ' := by
  refine ⟨H.g.fr (a1.mono (fun k x h => PR_N _ _ (re_PR _ _ _ h))) (a2.mono (fun k x h => QR_N _ _ (re_QR _ _ _ h))), r, fun j hj q => ?_, H.v.fr (fun k x hk => a1.get (by unfold P_re; omega)), ?_⟩
  · rw [a1.get (k := 39) (by unfold P_re; omega)]
    by_cases hji : j = i
    · rw [hji]; exact h2
    · rw [a1.get (k := 41) (by unfold P_re; omega)] at q
      exact H.t j hj q
  · unfold CW
    rw [a1.get (k := 33) (x := 1) (by unfold P_re; omega), a2.get (k := 84) (x := 64) (by unfold Q_re; omega)]
    exact H.w
theorem RN.ca (H : RN m rec D σ τ) (a1 : FR P_sca σ σ') (a2 : FR Q_sca τ τ') (g : σ' 33 3 = τ' 84 66) : RN m rec D σ' τ' := by
  refine ⟨H.g.fr (a1.mono (fun k x h => by unfold P_sca at h; unfold PN; omega)) (a2.mono (fun k x h => by unfold Q_sca at h; unfold QN; omega)), H.r.sca a1 a2 g, fun j hj q => ?_, H.v.fr (fun k x hk => a1.get (by unfold P_sca; omega)), ?_⟩
  · rw [a1.get (k := 41) (by unfold P_sca; omega)] at q
    rw [a1.get (k := 39) (by unfold P_sca; omega)]
    exact H.t j hj q
  · unfold CW
    rw [a1.get (k := 33) (x := 1) (by unfold P_sca; omega), a2.get (k := 84) (x := 64) (by unfold Q_sca; omega)]
    exact H.w
/-- the store i is retired in both -/
theorem rq_ls (H : RN m rec D σ τ) {i : Nat} (hi : i < m) (h5 : σ 5 i = 3) (h39 : σ 39 i = 2) : ∃ σ' τ', f_Mach_retireOne_3_p59 (i : Int) σ = some (0, σ') ∧ f_M_retires_84_p46 (i : Int) τ = some (0, τ') ∧ RN m rec D σ' τ' ∧ FR PR σ σ' ∧ FR QR τ τ' := by
  have hm := H.g.le
  have g : (0 : Int) ≤ (i : Int) ∧ (i : Int) < 20 := by omega
  obtain ⟨σ1, τ1, u1, u2, u3, u4, u5, u6⟩ := un_ls (i := i + 1) H.g H.r
  have H1 : RN m rec D σ1 τ1 := H.un u3 u4 u5 (fun j => by
    rw [u6]
    by_cases z : i + 1 ≤ j ∧ j < m
    · rw [if_pos z]; exact Or.inl rfl
    · rw [if_neg z]; exact Or.inr rfl)
  have k5 : σ1 5 i = 3 := (u4.get (by unfold P_un; omega)).trans h5
  have k39 : σ1 39 i = 2 := (u4.get (by unfold P_un; omega)).trans h39
  have sz := H1.g.sz hi (by omega)
  obtain ⟨s, hs⟩ : ∃ s : Nat, σ1 7 i = (s : Int) := ⟨(σ1 7 i).toNat, by omega⟩
  have hs4 : s ≤ 4 := by omega
  have va := H1.r.va i hi (H1.r.dn i hi k39)
  have v37 : σ1 37 i = τ1 121 i := va.2.2.1 (by omega)
  obtain ⟨σ2, x1, x2, x3, -, x5, x6⟩ := rt_68 (j := i) (s := s) (p := σ1 37 i) (v := σ1 36 i) (by omega) hs4 s 0 4096 σ1 (by omega) (by omega) hs rfl rfl
  obtain ⟨τ2, y1, y2, y3, -, y5, y6, y7⟩ := rt_m68 (j := i) (s := s) (p := σ1 37 i) (v := σ1 36 i) (M := τ1 128) (by omega) hs4 s 0 4096 (pU τ1 132 i (τ1 121 i)) (by omega) (by omega) (by rw [pU_c _ _ _ _ (by decide), sz.1]; exact hs) (by rw [pU_c _ _ _ _ (by decide)]; exact v37.symm) (by rw [pU_c _ _ _ _ (by decide)]; exact va.1.symm) (fun x => pU_c _ _ _ _ (by decide))
  have z2 : FR (Q_re i) τ1 τ2 := (FR.u (by unfold Q_re; omega)).tr y2
  have at6 : ∀ q, (atk (σ1 37 i) q).toNat < 64 := fun q => by have z := pAnd_63 (pw (σ1 37 i + (q : Int))); unfold atk; omega
  have r2 : RM m D σ2 τ2 := H1.r.sre x2 z2 (fun j hj q => by have z := H1.g.sz hj q; omega) k5 x6 y6 (by rw [y7, pU_s]; exact v37.symm) (fun e he => by
    have he' : e < s := by omega
    rw [x3 e (by omega) he', y3 e (by omega) he']
    exact H1.r.me _ (at6 e)) (fun x hx => by
    rw [x5, y5]
    exact ub_cg H1.r.me s x hx)
  refine ⟨σ2, τ2, ?_, ?_, H1.re k39 r2 x2 z2, (u4.mono un_PR).tr (x2.mono (re_PR i)), (u5.mono un_QR).tr (z2.mono (re_QR i))⟩
  · unfold f_Mach_retireOne_3_p59
    rw [pw_s (show i < 20 by omega) (by decide), u1, Option.bind_some]
    exact x1
  · unfold f_M_retires_84_p46
    rw [pw_s (show i < 20 by omega) (by decide), u2, Option.bind_some]
    dsimp only
    rw [if_pos g, if_pos g, Int.toNat_natCast]
    exact y1
/-- the oldest store that may be retired -/
theorem or_lp (H : RN m rec D σ τ) : ∀ (d i fu1 fu2 : Nat), i + d = m → d < fu1 → d < fu2 → ∃ v : Int, f_Mach_oldestToRetire_3_p2 fu1 (i : Int) σ = some (v, σ) ∧ f_M_oldestToRetire_84_p2 fu2 (i : Int) τ = some (v, τ) ∧ (v = -1 ∨ ∃ j : Nat, v = (j : Int) ∧ j < m ∧ σ 5 j = 3 ∧ σ 39 j = 2)
  | 0, i, fu1, fu2, hi, h1, h2 => by
    obtain ⟨n1, rfl⟩ : ∃ n, fu1 = n + 1 := ⟨fu1 - 1, by omega⟩
    obtain ⟨n2, rfl⟩ : ∃ n, fu2 = n + 1 := ⟨fu2 - 1, by omega⟩
    have a := H.g.cm
    have b := H.g.mm
    refine ⟨-1, ?_, ?_, Or.inl rfl⟩
    · show (if σ 4 11 ≤ (i : Int) then _ else _) = _
      rw [if_pos (by omega)]
    · show (if τ 84 2 ≤ (i : Int) then _ else _) = _
      rw [if_pos (by omega)]
  | d + 1, i, fu1, fu2, hi, h1, h2 => by
    obtain ⟨n1, rfl⟩ : ∃ n, fu1 = n + 1 := ⟨fu1 - 1, by omega⟩
    obtain ⟨n2, rfl⟩ : ∃ n, fu2 = n + 1 := ⟨fu2 - 1, by omega⟩
    have hm := H.g.le
    have a := H.g.cm
    have b := H.g.mm
    have him : i < m := by omega
    have g : (0 : Int) ≤ (i : Int) ∧ (i : Int) < 20 := by omega
    obtain ⟨v, q1, q2, q3⟩ := or_lp H d (i + 1) n1 n2 (by omega) (by omega) (by omega)
    have eX : f_Mach_oldestToRetire_3_p2 (n1 + 1) (i : Int) σ = (if σ 5 i = 3 then (if σ 39 i = 2 then (if σ 41 i = 0 then some ((i : Int), σ) else some (v, σ)) else some (v, σ)) else some (v, σ)) := by
      show (if σ 4 11 ≤ (i : Int) then _ else _) = _
      rw [if_neg (by omega), if_pos g, if_pos g, if_pos g, Int.toNat_natCast, pw_s (show i < 20 by omega) (by decide), q1]
    have eM : f_M_oldestToRetire_84_p2 (n2 + 1) (i : Int) τ = (if σ 5 i = 3 then (if σ 39 i = 2 then (if σ 41 i = 0 then some ((i : Int), τ) else some (v, τ)) else some (v, τ)) else some (v, τ)) := by
      show (if τ 84 2 ≤ (i : Int) then _ else _) = _
      rw [if_neg (by omega), if_pos g, if_pos g, if_pos g, Int.toNat_natCast, pw_s (show i < 20 by omega) (by decide), q2, (H.g.kd him).1, ← (H.r.st i him).1, ← (H.r.rt i him).1]
    rw [eX, eM]
    by_cases z5 : σ 5 i = 3
    · rw [if_pos z5, if_pos z5]
      by_cases z39 : σ 39 i = 2
      · rw [if_pos z39, if_pos z39]
        by_cases z41 : σ 41 i = 0
        · rw [if_pos z41, if_pos z41]
          exact ⟨_, rfl, rfl, Or.inr ⟨i, rfl, him, z5, z39⟩⟩
        · rw [if_neg z41, if_neg z41]
          exact ⟨v, rfl, rfl, q3⟩
      · rw [if_neg z39, if_neg z39]
        exact ⟨v, rfl, rfl, q3⟩
    · rw [if_neg z5, if_neg z5]
      exact ⟨v, rfl, rfl, q3⟩
/-- whether all ahead of i are done -/
theorem da_lp (H : RN m rec D σ τ) {i : Nat} (hi : i ≤ m) : ∀ (d k fu1 fu2 : Nat), k + d = i → d < fu1 → d < fu2 → ∃ b : Int, f_Mach_doneAhead_3_p2 fu1 (i : Int) (k : Int) σ = some (b, σ) ∧ f_M_areAllDone_84_p2 fu2 (i : Int) (k : Int) τ = some (b, τ)
  | 0, k, fu1, fu2, hk, h1, h2 => by
    obtain ⟨n1, rfl⟩ : ∃ n, fu1 = n + 1 := ⟨fu1 - 1, by omega⟩
    obtain ⟨n2, rfl⟩ : ∃ n, fu2 = n + 1 := ⟨fu2 - 1, by omega⟩
    refine ⟨1, ?_, ?_⟩
    · show (if (i : Int) ≤ (k : Int) then _ else _) = _
      rw [if_pos (by omega)]
    · show (if (i : Int) ≤ (k : Int) then _ else _) = _
      rw [if_pos (by omega)]
  | d + 1, k, fu1, fu2, hk, h1, h2 => by
    obtain ⟨n1, rfl⟩ : ∃ n, fu1 = n + 1 := ⟨fu1 - 1, by omega⟩
    obtain ⟨n2, rfl⟩ : ∃ n, fu2 = n + 1 := ⟨fu2 - 1, by omega⟩
    have hm := H.g.le
    have g : (0 : Int) ≤ (k : Int) ∧ (k : Int) < 20 := by omega
    obtain ⟨v, q1, q2⟩ := da_lp H hi d (k + 1) n1 n2 (by omega) (by omega) (by omega)
    have eX : f_Mach_doneAhead_3_p2 (n1 + 1) (i : Int) (k : Int) σ = (if σ 39 k = 2 then some (v, σ) else some (0, σ)) := by
      show (if (i : Int) ≤ (k : Int) then _ else _) = _
      rw [if_neg (by omega), if_pos g, Int.toNat_natCast, pw_s (show k < 20 by omega) (by decide), q1]
    have eM : f_M_areAllDone_84_p2 (n2 + 1) (i : Int) (k : Int) τ = (if σ 39 k = 2 then some (v, τ) else some (0, τ)) := by
      show (if (i : Int) ≤ (k : Int) then _ else _) = _
      rw [if_neg (by omega), if_pos g, Int.toNat_natCast, pw_s (show k < 20 by omega) (by decide), q2, ← (H.r.st k (by omega)).1]
    rw [eX, eM]
    by_cases z : σ 39 k = 2
    · rw [if_pos z, if_pos z]
      exact ⟨v, rfl, rfl⟩
    · rw [if_neg z, if_neg z]
      exact ⟨0, rfl, rfl⟩
/-- whether all are done and all stores retired -/
theorem se_lp (H : RN m rec D σ τ) : ∀ (d i fu1 fu2 : Nat), i + d = m → d < fu1 → d < fu2 → ∃ v : Int, f_Mach_settled_3_p2 fu1 (i : Int) σ = some (v, σ) ∧ f_M_isOver_84_p2 fu2 (i : Int) τ = some (v, τ) ∧ (v ≠ 0 → ∀ j, i ≤ j → j < m → σ 39 j = 2)
  | 0, i, fu1, fu2, hi, h1, h2 => by
    obtain ⟨n1, rfl⟩ : ∃ n, fu1 = n + 1 := ⟨fu1 - 1, by omega⟩
    obtain ⟨n2, rfl⟩ : ∃ n, fu2 = n + 1 := ⟨fu2 - 1, by omega⟩
    have a := H.g.cm
    have b := H.g.mm
    refine ⟨1, ?_, ?_, fun _ j a b => by omega⟩
    · show (if σ 4 11 ≤ (i : Int) then _ else _) = _
      rw [if_pos (by omega)]
    · show (if τ 84 2 ≤ (i : Int) then _ else _) = _
      rw [if_pos (by omega)]
  | d + 1, i, fu1, fu2, hi, h1, h2 => by
    obtain ⟨n1, rfl⟩ : ∃ n, fu1 = n + 1 := ⟨fu1 - 1, by omega⟩
    obtain ⟨n2, rfl⟩ : ∃ n, fu2 = n + 1 := ⟨fu2 - 1, by omega⟩
    have hm := H.g.le
    have a := H.g.cm
    have b := H.g.mm
    have him : i < m := by omega
    have g : (0 : Int) ≤ (i : Int) ∧ (i : Int) < 20 := by omega
    obtain ⟨v, q1, q2, q3⟩ := se_lp H d (i + 1) n1 n2 (by omega) (by omega) (by omega)
    have eX : f_Mach_settled_3_p2 (n1 + 1) (i : Int) σ = (if σ 39 i = 2 then (if σ 5 i = 3 then (if σ 41 i = 0 then some (0, σ) else some (v, σ)) else some (v, σ)) else some (0, σ)) := by
      show (if σ 4 11 ≤ (i : Int) then _ else _) = _
      rw [if_neg (by omega), if_pos g, if_pos g, if_pos g, Int.toNat_natCast, pw_s (show i < 20 by omega) (by decide), q1]
    have eM : f_M_isOver_84_p2 (n2 + 1) (i : Int) τ = (if σ 39 i = 2 then (if σ 5 i = 3 then (if σ 41 i = 0 then some (0, τ) else some (v, τ)) else some (v, τ)) else some (0, τ)) := by
      show (if τ 84 2 ≤ (i : Int) then _ else _) = _
      rw [if_neg (by omega), if_pos g, if_pos g, if_pos g, Int.toNat_natCast, pw_s (show i < 20 by omega) (by decide), q2, (H.g.kd him).1, ← (H.r.st i him).1, ← (H.r.rt i him).1]
    rw [eX, eM]
    by_cases z39 : σ 39 i = 2
    · have q3 : v ≠ 0 → ∀ j, i ≤ j → j < m → σ 39 j = 2 := fun hv j a b => by
        by_cases hj : j = i
        · rw [hj]; exact z39
        · exact q3 hv j (by omega) b
      rw [if_pos z39, if_pos z39]
      by_cases z5 : σ 5 i = 3
      · rw [if_pos z5, if_pos z5]
        by_cases z41 : σ 41 i = 0
        · rw [if_pos z41, if_pos z41]
          exact ⟨0, rfl, rfl, fun h => absurd rfl h⟩
        · rw [if_neg z41, if_neg z41]
          exact ⟨v, rfl, rfl, q3⟩
      · rw [if_neg z5, if_neg z5]
        exact ⟨v, rfl, rfl, q3⟩
    · rw [if_neg z39, if_neg z39]
      exact ⟨0, rfl, rfl, fun h => absurd rfl h⟩
/-- a cycle's retiring -/
theorem rt_ls {cy : Int} (H : RN m rec D σ τ) (hL : LW mL c R σ τ) (hcy : σ 3 11 = cy) : ∃ σ' τ', f_Mach_retireOne_3 σ = some (0, σ') ∧ f_M_retires_84 cy τ = some (0, τ') ∧ RN m rec D σ' τ' ∧ LW mL c R σ' τ' ∧ FR PN σ σ' ∧ FR QN τ τ' ∧ σ' 3 11 = cy := by
  have hm := H.g.le
  obtain ⟨v, o1, o2, o3⟩ := or_lp H m 0 4096 4096 (by omega) (by omega) (by omega)
  have o1 : f_Mach_oldestToRetire_3 σ = some (v, σ) := o1
  have o2 : f_M_oldestToRetire_84 τ = some (v, τ) := o2
  unfold f_Mach_retireOne_3 f_M_retires_84
  rw [o1, o2, Option.bind_some, Option.bind_some]
  rcases o3 with o3 | ⟨i, o3, hi, h5, h39⟩
  · refine ⟨σ, τ, ?_, ?_, H, hL, FR.rf _ _, FR.rf _ _, hcy⟩
    · show (if v = -1 then _ else _) = _
      rw [if_pos o3]
    · show (if v = -1 then _ else _) = _
      rw [if_pos o3]
  · obtain ⟨b, d1, d2⟩ := da_lp H (i := i) (by omega) i 0 4096 4096 (by omega) (by omega) (by omega)
    have d1 : f_Mach_doneAhead_3 (i : Int) σ = some (b, σ) := d1
    have d2 : f_M_areAllDone_84 (i : Int) τ = some (b, τ) := d2
    have eX : (if v = -1 then some ((0 : Int), σ) else ((f_Mach_doneAhead_3 v σ).bind fun q3 => (if q3.1 = 0 then (f_Mach_retireOne_3_p24 v 1 q3.2) else (f_Mach_retireOne_3_p24 v 0 q3.2)))) = (if b = 0 then (f_Mach_retireOne_3_p24 (i : Int) 1 σ) else (f_Mach_retireOne_3_p59 (i : Int) σ)) := by
      rw [o3, if_neg (by omega), d1]
      rfl
    have eM : (if v = -1 then some ((0 : Int), τ) else ((f_M_areAllDone_84 v τ).bind fun q3 => (if q3.1 = 0 then ((f_M_feels_84 v cy 0 q3.2).bind fun q17 => ((f_M_isHeldBack_84 q17.2).bind fun q18 => (if q18.1 = 0 then (f_M_retires_84_p46 v (pU q18.2 84 66 (pw ((q18.2 84 66) + 1)))) else (some (0, q18.2))))) else (f_M_retires_84_p46 v q3.2)))) = (if b = 0 then ((f_M_feels_84 (i : Int) cy 0 τ).bind fun q17 => ((f_M_isHeldBack_84 q17.2).bind fun q18 => (if q18.1 = 0 then (f_M_retires_84_p46 (i : Int) (pU q18.2 84 66 (pw ((q18.2 84 66) + 1)))) else (some (0, q18.2))))) else (f_M_retires_84_p46 (i : Int) τ)) := by
      rw [o3, if_neg (by omega), d2]
      rfl
    have fin : ∀ (σ1 τ1 : pS), RN m rec D σ1 τ1 → LW mL c R σ1 τ1 → σ1 3 11 = cy → σ1 5 i = 3 → σ1 39 i = 2 → FR PN σ σ1 → FR QN τ τ1 → ∃ σ' τ', f_Mach_retireOne_3_p59 (i : Int) σ1 = some (0, σ') ∧ f_M_retires_84_p46 (i : Int) τ1 = some (0, τ') ∧ RN m rec D σ' τ' ∧ LW mL c R σ' τ' ∧ FR PN σ σ' ∧ FR QN τ τ' ∧ σ' 3 11 = cy := fun σ1 τ1 H1 L1 c1 z5 z39 a1 a2 => by
      obtain ⟨σ2, τ2, r1, r2, r3, r4, r5⟩ := rq_ls H1 hi z5 z39
      exact ⟨σ2, τ2, r1, r2, r3, L1.n (r4.mono PR_N) (r5.mono QR_N), a1.tr (r4.mono PR_N), a2.tr (r5.mono QR_N), (r4.get (by unfold PR; omega)).trans c1⟩
    suffices hh : ∃ σ' τ', (if b = 0 then (f_Mach_retireOne_3_p24 (i : Int) 1 σ) else (f_Mach_retireOne_3_p59 (i : Int) σ)) = some (0, σ') ∧ (if b = 0 then ((f_M_feels_84 (i : Int) cy 0 τ).bind fun q17 => ((f_M_isHeldBack_84 q17.2).bind fun q18 => (if q18.1 = 0 then (f_M_retires_84_p46 (i : Int) (pU q18.2 84 66 (pw ((q18.2 84 66) + 1)))) else (some (0, q18.2))))) else (f_M_retires_84_p46 (i : Int) τ)) = some (0, τ') ∧ RN m rec D σ' τ' ∧ LW mL c R σ' τ' ∧ FR PN σ σ' ∧ FR QN τ τ' ∧ σ' 3 11 = cy by
      obtain ⟨σ', τ', w1, w2, w3⟩ := hh
      exact ⟨σ', τ', eX.trans w1, eM.trans w2, w3⟩
    by_cases z : b = 0
    · rw [if_pos z, if_pos z]
      obtain ⟨σ1, τ1, t1, t2, t3, t4, t5⟩ := tl_ls H hi (w := 0) hcy
      have a1 : FR PS σ σ1 := t4.mono (fun k x h => by unfold PS; omega)
      have a2 : FR QS τ τ1 := t5.mono (fun k x h => by unfold QS; omega)
      have H1 := H.sc a1 a2
      have L1 := hL.n (a1.mono PS_N) (a2.mono QS_N)
      obtain ⟨w, σ2, τ2, b1, b2, b3, b4⟩ := hb_lp mL 0 4096 4096 σ1 τ1 (by omega) (by have := hL.1; omega) (by have := hL.1; omega) L1 t3
      have b1 : f_Law_holdsBack_16 σ1 = some (w, σ2) := b1
      have b2 : f_M_isHeldBack_84 τ1 = some (w, τ2) := b2
      have a3 : FR PS σ1 σ2 := b3.mono (fun k x h => by unfold P23 at h; unfold PS; omega)
      have a4 : FR QS τ1 τ2 := b4.mono (fun k x h => by unfold Q108 at h; unfold QS; omega)
      have H2 := H1.sc a3 a4
      have L2 := L1.n (a3.mono PS_N) (a4.mono QS_N)
      have c2 : σ2 3 11 = cy := by rw [b3.get (by unfold P23; omega), t4.get (by decide)]; exact hcy
      have f5 : σ2 5 i = 3 := by rw [b3.get (by unfold P23; omega), t4.get (by decide)]; exact h5
      have f39 : σ2 39 i = 2 := by rw [b3.get (by unfold P23; omega), t4.get (by decide)]; exact h39
      have A2 : FR PN σ σ2 := (a1.tr a3).mono PS_N
      have B2 : FR QN τ τ2 := (a2.tr a4).mono QS_N
      unfold f_Mach_retireOne_3_p24
      rw [if_neg (by decide), t1, t2, Option.bind_some, Option.bind_some, b1, b2, Option.bind_some, Option.bind_some]
      show ∃ σ' τ', (if w = 0 then (f_Mach_retireOne_3_p59 (i : Int) (pU σ2 33 3 (pw ((σ2 33 3) + 1)))) else (some (0, σ2))) = some (0, σ') ∧ (if w = 0 then (f_M_retires_84_p46 (i : Int) (pU τ2 84 66 (pw ((τ2 84 66) + 1)))) else (some (0, τ2))) = some (0, τ') ∧ _
      by_cases zw : w = 0
      · rw [if_pos zw, if_pos zw]
        have f1 : FR P_sca σ2 (pU σ2 33 3 (pw (σ2 33 3 + 1))) := FR.u ⟨rfl, rfl⟩
        have f2 : FR Q_sca τ2 (pU τ2 84 66 (pw (τ2 84 66 + 1))) := FR.u ⟨rfl, rfl⟩
        have n1 := f1.mono (Q := PN) (fun k x h => by unfold P_sca at h; unfold PN; omega)
        have n2 := f2.mono (Q := QN) (fun k x h => by unfold Q_sca at h; unfold QN; omega)
        exact fin _ _ (H2.ca f1 f2 (by rw [pU_s, pU_s, H2.r.ca])) (L2.n n1 n2) ((f1.get (by unfold P_sca; omega)).trans c2) ((f1.get (by unfold P_sca; omega)).trans f5) ((f1.get (by unfold P_sca; omega)).trans f39) (A2.tr n1) (B2.tr n2)
      · rw [if_neg zw, if_neg zw]
        exact ⟨σ2, τ2, rfl, rfl, H2, L2, A2, B2, c2⟩
    · rw [if_neg z, if_neg z]
      exact fin σ τ H hL hcy h5 h39 (FR.rf _ _) (FR.rf _ _)
end RT
section CY
variable {m mL : Nat} {rec : Nat → O8} {D : Nat → Prop} {c : Cd} {R : Nat → Ru} {σ τ σ' τ' : pS}
/-- the class's registers at the end of a run -/
theorem gr_lp {σ0 : pS} (hm : m ≤ 20) (h11 : σ0 4 11 = (m : Int)) : ∀ (d i fu : Nat) (σ : pS), i + d = m → d < fu → FR (fun k _ => k = 29) σ0 σ → (∀ r : Nat, r < 8 → σ 29 r = vr σ0 (gv (σ0 8) i (r : Int)) (r : Int)) → ∃ σ', f_Mach_giveRegisters_3_p2 fu (i : Int) σ = some (0, σ') ∧ FR (fun k _ => k = 29) σ0 σ' ∧ ∀ r : Nat, r < 8 → σ' 29 r = vr σ0 (gv (σ0 8) m (r : Int)) (r : Int)
  | 0, i, fu, σ, hi, hf, hF, h => by
    obtain ⟨n, rfl⟩ : ∃ n, fu = n + 1 := ⟨fu - 1, by omega⟩
    obtain rfl : i = m := by omega
    refine ⟨σ, ?_, hF, h⟩
    show (if σ 4 11 ≤ (i : Int) then _ else _) = _
    rw [hF.get (by decide), if_pos (by omega)]
  | d + 1, i, fu, σ, hi, hf, hF, h => by
    obtain ⟨n, rfl⟩ : ∃ n, fu = n + 1 := ⟨fu - 1, by omega⟩
    have g : (0 : Int) ≤ (i : Int) ∧ (i : Int) < 20 := by omega
    have e8 : σ 8 i = σ0 8 i := hF.get (by decide)
    have e36 : σ 36 i = σ0 36 i := hF.get (by decide)
    have eX : f_Mach_giveRegisters_3_p2 (n + 1) (i : Int) σ = (if (if 0 ≤ σ0 8 i ∧ σ0 8 i < 8 then (1 : Int) else 0) = 0 then f_Mach_giveRegisters_3_p2 n ((i + 1 : Nat) : Int) σ else (if 0 ≤ σ0 8 i ∧ σ0 8 i < 8 then f_Mach_giveRegisters_3_p2 n ((i + 1 : Nat) : Int) (pU σ 29 (σ0 8 i).toNat (σ0 36 i)) else none)) := by
      show (if σ 4 11 ≤ (i : Int) then _ else _) = _
      rw [hF.get (k := 4) (by decide), if_neg (by omega), if_pos g, Int.toNat_natCast, x_isCell, Option.bind_some, e8]
      dsimp only
      rw [if_pos g, if_pos g, pw_s (show i < 20 by omega) (by decide)]
      simp only [e8, e36]
    rw [eX]
    by_cases z : 0 ≤ σ0 8 i ∧ σ0 8 i < 8
    · rw [if_pos z, if_neg (by decide), if_pos z]
      refine gr_lp hm h11 d (i + 1) n _ (by omega) (by omega) (hF.tr (FR.u rfl)) (fun r hr => ?_)
      show _ = vr σ0 (if σ0 8 i = (r : Int) then (i : Int) else gv (σ0 8) i (r : Int)) (r : Int)
      by_cases zr : σ0 8 i = (r : Int)
      · rw [if_pos zr, zr, Int.toNat_natCast, pU_s]
        unfold vr
        rw [if_pos g.1, Int.toNat_natCast]
      · rw [if_neg zr, pU_i _ _ _ _ (by omega)]
        exact h r hr
    · rw [if_neg z, if_pos rfl]
      refine gr_lp hm h11 d (i + 1) n _ (by omega) (by omega) hF (fun r hr => ?_)
      show _ = vr σ0 (if σ0 8 i = (r : Int) then (i : Int) else gv (σ0 8) i (r : Int)) (r : Int)
      rw [if_neg (by omega)]
      exact h r hr
/-- the reference's -/
def rvl (g : Nat → Int) (τ : pS) (i : Nat) (r : Int) : Int := if gv g i r = -1 then τ 85 r.toNat else τ 120 (gv g i r).toNat
theorem mg_177 {τ0 : pS} (hG : PG m rec σ τ0) : ∀ (d r fu : Nat) (τ : pS), r + d = 8 → d < fu → FR (fun k _ => k = 130) τ0 τ → (∀ q : Nat, q < r → τ 130 q = rvl (σ 8) τ0 m (q : Int)) → ∃ τ', f_M_goesThrough_84_p177 fu (r : Int) τ = some (if τ0 84 63 = -5 then 0 else 1, τ') ∧ FR (fun k _ => k = 130) τ0 τ' ∧ ∀ q : Nat, q < 8 → τ' 130 q = rvl (σ 8) τ0 m (q : Int)
  | 0, r, fu, τ, hr, hf, hF, h => by
    obtain ⟨n, rfl⟩ : ∃ n, fu = n + 1 := ⟨fu - 1, by omega⟩
    obtain rfl : r = 8 := by omega
    refine ⟨τ, ?_, hF, h⟩
    show (if (8 : Int) ≤ ((8 : Nat) : Int) then _ else _) = _
    rw [if_pos (by decide), hF.get (k := 84) (by decide)]
    by_cases z : τ0 84 63 = -5
    · rw [if_pos z, if_pos z]
    · rw [if_neg z, if_neg z]
  | d + 1, r, fu, τ, hr, hf, hF, h => by
    obtain ⟨n, rfl⟩ : ∃ n, fu = n + 1 := ⟨fu - 1, by omega⟩
    have hm := hG.le
    have gr := gv_r (σ 8) (r : Int) m
    have hMR : ∀ j, j < m → MRp τ j (rec j) := fun j hj => by
      have z := (hG.op j hj).2.1
      unfold MRp at *
      rw [hF.get (k := 88) (by decide), hF.get (k := 89) (by decide), hF.get (k := 90) (by decide), hF.get (k := 91) (by decide), hF.get (k := 92) (by decide), hF.get (k := 93) (by decide), hF.get (k := 94) (by decide), hF.get (k := 95) (by decide)]
      exact z
    have rb : f_M_readBy_84 (m : Int) (r : Int) τ = some (rvl (σ 8) τ0 m (r : Int), τ) := by
      unfold f_M_readBy_84 rvl
      rw [m_giv hm (fun j hj => ⟨(hG.op j hj).1, hMR j hj, (hG.op j hj).2.2⟩) (by omega) (Nat.le_refl m), Option.bind_some]
      dsimp only
      by_cases z : gv (σ 8) m (r : Int) = -1
      · rw [if_pos z, if_pos z, if_pos (by omega), hF.get (k := 85) (by decide)]
      · rw [if_neg z, if_neg z, if_pos (by omega), hF.get (k := 120) (by decide)]
    have g : (0 : Int) ≤ (r : Int) ∧ (r : Int) < 8 := by omega
    have eX : f_M_goesThrough_84_p177 (n + 1) (r : Int) τ = f_M_goesThrough_84_p177 n ((r + 1 : Nat) : Int) (pU τ 130 r (rvl (σ 8) τ0 m (r : Int))) := by
      show (if (8 : Int) ≤ (r : Int) then _ else _) = _
      rw [if_neg (by omega), hF.get (k := 84) (x := 2) (by decide), hG.mm, rb, Option.bind_some]
      dsimp only
      rw [if_pos g, Int.toNat_natCast, pw_s (show r < 20 by omega) (by decide)]
    rw [eX]
    refine mg_177 hG d (r + 1) n _ (by omega) (by omega) (hF.tr (FR.u rfl)) (fun q hq => ?_)
    by_cases z : q = r
    · rw [z, pU_s]
    · rw [pU_i _ _ _ _ z]
      exact h q (by omega)
def PE (k x : Nat) : Prop := PN k x ∨ k = 29
def QE (k x : Nat) : Prop := QN k x ∨ (k = 84 ∧ x = 63) ∨ k = 130
theorem N_PE (k x : Nat) (h : PN k x) : PE k x := Or.inl h
theorem N_QE (k x : Nat) (h : QN k x) : QE k x := Or.inl h
theorem PG.e (h : PG m rec σ τ) (h1 : FR PE σ σ') (h2 : FR QE τ τ') : PG m rec σ' τ' := by
  have a : ∀ k x, 4 ≤ k → k ≤ 13 → σ' k x = σ k x := fun k x p q => h1.get (by unfold PE PN; omega)
  have b : ∀ k x, 88 ≤ k → k ≤ 95 → τ' k x = τ k x := fun k x p q => h2.get (by unfold QE QN; omega)
  have e8 : σ' 8 = σ 8 := funext (fun x => a 8 x (by decide) (by decide))
  refine ⟨h.le, (a _ _ (by decide) (by decide)).trans h.cm, (h2.get (by unfold QE QN; omega)).trans h.mm, fun j hj => ?_, fun j hj => ?_⟩
  · obtain ⟨c1, c2, c3⟩ := h.op j hj
    refine ⟨?_, ?_, c3⟩
    · unfold CRp at *
      rw [a 5 _ (by decide) (by decide), a 6 _ (by decide) (by decide), a 7 _ (by decide) (by decide), a 8 _ (by decide) (by decide), a 9 _ (by decide) (by decide), a 10 _ (by decide) (by decide), a 11 _ (by decide) (by decide)]
      exact c1
    · unfold MRp at *
      rw [b 88 _ (by decide) (by decide), b 89 _ (by decide) (by decide), b 90 _ (by decide) (by decide), b 91 _ (by decide) (by decide), b 92 _ (by decide) (by decide), b 93 _ (by decide) (by decide), b 94 _ (by decide) (by decide), b 95 _ (by decide) (by decide)]
      exact c2
  · rw [a 12 _ (by decide) (by decide), a 13 _ (by decide) (by decide), a 9 _ (by decide) (by decide), a 10 _ (by decide) (by decide), e8]
    exact h.so j hj
theorem LW.e (h : LW mL c R σ τ) (h1 : FR PE σ σ') (h2 : FR QE τ τ') : LW mL c R σ' τ' := h.mv (h1.get (by unfold PE PN; omega)) (fun k x _ _ => h1.get (by unfold PE PN; omega)) (h2.get (by unfold QE QN; omega)) (fun k x _ _ => h2.get (by unfold QE QN; omega))
/-- what a run that came to its end leaves alike: RM with all done, the registers, the cycles -/
def RE (m : Nat) (rec : Nat → O8) (t : Int) (σ τ : pS) : Prop := PG m rec σ τ ∧ RM m (fun _ => True) σ τ ∧ (∀ j, j < m → σ 39 j = 2) ∧ (∀ r, r < 8 → σ 29 r = τ 130 r) ∧ σ 33 0 = t ∧ τ 84 63 = t ∧ 1 ≤ t ∧ t ≤ 2001 ∧ σ 33 1 = τ 84 64
theorem RM.all (h : RM m D σ τ) (hD : ∀ j, j < m → D j) : RM m (fun _ => True) σ τ := by
  refine ⟨h.st, h.ti, h.rt, h.re, fun j hj _ => h.va j hj (hD j hj), fun _ _ _ => trivial, fun _ _ _ => ⟨fun _ => trivial, fun _ => trivial⟩, h.rp, h.me, h.m0, h.se, h.ns, h.x, h.cr, h.ca, h.cu, h.cd, h.ru, h.rg, h.sh⟩
/-- one cycle in both -/
theorem cy_ls {w lw cy : Int} (hlw : lw = 0 ∨ lw = 1) (H : RN m rec D σ τ) (hL : LW mL c R σ τ) (h70 : τ 84 70 = lw) : ∃ D' σ1 σ2 σ' τ' v, f_Mach_finishOps_3 (pU σ 3 11 cy) = some (0, σ1) ∧ f_Mach_sendOff_3 w lw σ1 = some (0, σ2) ∧ f_Mach_retireOne_3 σ2 = some (0, σ') ∧ f_Mach_settled_3 σ' = some (v, σ') ∧ f_M_cycleGoes_84 cy w τ = some (0, τ') ∧ f_M_isOver_84 τ' = some (v, τ') ∧ RN m rec D' σ' τ' ∧ LW mL c R σ' τ' ∧ FR PN σ σ' ∧ FR QN τ τ' ∧ (v ≠ 0 → ∀ j, j < m → σ' 39 j = 2) := by
  have hm := H.g.le
  have u1 : FR PS σ (pU σ 3 11 cy) := FR.u (by unfold PS; omega)
  have H0 := H.sc u1 (FR.rf QS τ)
  have L0 := hL.n (u1.mono PS_N) (FR.rf QN τ)
  obtain ⟨D1, σ1, τ1, a1, a2, a3, a4, a5, a6⟩ := fo_lp (w := w) m 0 4096 4096 D (pU σ 3 11 cy) τ (by omega) (by omega) (by omega) (pU_s _ _ _ _) H0
  have L1 := L0.n a4 a5
  obtain ⟨σ2, τ2, b1, b2, b3, b4, b5, b6, b7, -⟩ := so_lp (w := w) hlw m 0 4096 4096 0 σ1 τ1 (by omega) (by omega) (by omega) a6 ((a5.get (by unfold QN; omega)).trans h70) a3 L1
  obtain ⟨σ3, τ3, r1, r2, r3, r4, r5, r6, r7⟩ := rt_ls b3 b4 b7
  obtain ⟨v, s1, s2, s3⟩ := se_lp r3 m 0 4096 4096 (by omega) (by omega) (by omega)
  refine ⟨D1, σ1, σ2, σ3, τ3, v, a1, b1, r1, s1, ?_, s2, r3, r4, (u1.mono PS_N).tr (a4.tr (b5.tr r5)), a5.tr (b6.tr r6), fun hv j hj => s3 hv j (by omega) hj⟩
  show f_M_cycleGoes_84_p2 4096 cy w ((0 : Nat) : Int) τ = _
  rw [a2]
  show f_M_cycleGoes_84_p47 4096 cy w 0 ((0 : Nat) : Int) τ1 = _
  rw [b2, r2]
  rfl
/-- a run's cycles in both -/
theorem cy_lp {w lw : Int} (hlw : lw = 0 ∨ lw = 1) : ∀ (d a fu1 fu2 : Nat) (D : Nat → Prop) (σ τ : pS), a + d = 2001 → d < fu1 → d + 1 < fu2 → τ 84 63 = -5 → τ 84 70 = lw → RN m rec D σ τ → LW mL c R σ τ → (∀ r, r < 8 → σ 29 r = σ 25 r) → ∃ σ' τ', FR PE σ σ' ∧ FR QE τ τ' ∧ ((f_Mach_go_3_p6 fu1 w lw (a : Int) σ = some (-5, σ') ∧ f_M_goesThrough_84_p133 fu2 w (a : Int) τ = some (0, τ') ∧ τ' 84 0 = σ' 28 5 ∧ 0 ≤ σ' 28 5 ∧ σ' 28 5 ≤ 65535) ∨ ∃ t, f_Mach_go_3_p6 fu1 w lw (a : Int) σ = some (t, σ') ∧ f_M_goesThrough_84_p133 fu2 w (a : Int) τ = some (1, τ') ∧ RE m rec t σ' τ')
  | 0, a, fu1, fu2, D, σ, τ, ha, h1, h2, h63, h70, H, hL, h29 => by
    obtain ⟨n1, rfl⟩ : ∃ n, fu1 = n + 1 := ⟨fu1 - 1, by omega⟩
    obtain ⟨n2, rfl⟩ : ∃ n, fu2 = n + 1 := ⟨fu2 - 1, by omega⟩
    obtain ⟨τ1, q1, q2, q3⟩ := mg_177 H.g 8 0 4096 τ (by omega) (by omega) (FR.rf _ _) (fun q hq => by omega)
    rw [if_pos h63] at q1
    refine ⟨σ, τ1, FR.rf _ _, q2.mono (fun k x h => Or.inr (Or.inr h)), Or.inl ⟨?_, ?_, ?_⟩⟩
    · show (if (2000 : Int) < (a : Int) then _ else _) = _
      rw [if_pos (by omega)]
    · show (if (2000 : Int) < (a : Int) then _ else _) = _
      rw [if_pos (by omega)]
      exact q1
    · rw [q2.get (by decide)]
      have z := H.r.x
      exact ⟨z.1.symm, z.2⟩
  | d + 1, a, fu1, fu2, D, σ, τ, ha, h1, h2, h63, h70, H, hL, h29 => by
    obtain ⟨n1, rfl⟩ : ∃ n, fu1 = n + 1 := ⟨fu1 - 1, by omega⟩
    obtain ⟨n2, rfl⟩ : ∃ n, fu2 = n + 1 := ⟨fu2 - 1, by omega⟩
    have hm := H.g.le
    obtain ⟨D1, σ1, σ2, σ3, τ3, v, a1, a2, a3, a4, a5, a6, a7, a8, a9, a10, a11⟩ := cy_ls (w := w) (cy := (a : Int)) hlw H hL h70
    have eX : f_Mach_go_3_p6 (n1 + 1) w lw (a : Int) σ = (if v = 0 then f_Mach_go_3_p6 n1 w lw ((a + 1 : Nat) : Int) σ3 else ((f_Mach_giveRegisters_3 (pU σ3 33 0 ((a + 1 : Nat) : Int))).bind fun q8 => some (((a + 1 : Nat) : Int), q8.2))) := by
      show (if (2000 : Int) < (a : Int) then _ else _) = _
      rw [if_neg (by omega), a1, Option.bind_some, a2, Option.bind_some, a3, Option.bind_some, a4, Option.bind_some]
      dsimp only
      rw [pw_s (show a < 2001 by omega) (by decide)]
    have eM : f_M_goesThrough_84_p133 (n2 + 1) w (a : Int) τ = (if v = 0 then f_M_goesThrough_84_p133 n2 w ((a + 1 : Nat) : Int) τ3 else f_M_goesThrough_84_p133 n2 w ((a + 1 : Nat) : Int) (pU τ3 84 63 ((a + 1 : Nat) : Int))) := by
      show (if (2000 : Int) < (a : Int) then _ else _) = _
      rw [if_neg (by omega), if_pos h63, a5, Option.bind_some, a6, Option.bind_some]
      dsimp only
      rw [pw_s (show a < 2001 by omega) (by decide)]
    have k29 : ∀ r, r < 8 → σ3 29 r = σ3 25 r := fun r hr => by
      rw [a9.get (k := 29) (by unfold PN; omega), a9.get (k := 25) (by unfold PN; omega)]
      exact h29 r hr
    by_cases z : v = 0
    · obtain ⟨σ', τ', q1, q2, q3⟩ := cy_lp hlw d (a + 1) n1 n2 D1 σ3 τ3 (by omega) (by omega) (by omega) ((a10.get (by unfold QN; omega)).trans h63) ((a10.get (by unfold QN; omega)).trans h70) a7 a8 k29
      refine ⟨σ', τ', (a9.mono N_PE).tr q1, (a10.mono N_QE).tr q2, ?_⟩
      rw [eX, eM, if_pos z, if_pos z]
      exact q3
    · have all := a11 z
      have u1 : FR P_sno σ3 (pU σ3 33 0 ((a + 1 : Nat) : Int)) := FR.u (by unfold P_sno; omega)
      have u2 : FR Q_sno τ3 (pU τ3 84 63 ((a + 1 : Nat) : Int)) := FR.u (by unfold Q_sno; omega)
      have G4 : PG m rec (pU σ3 33 0 ((a + 1 : Nat) : Int)) (pU τ3 84 63 ((a + 1 : Nat) : Int)) := a7.g.e (FR.u (by unfold PE PN; omega)) (FR.u (by unfold QE QN; omega))
      have R4 : RM m D1 (pU σ3 33 0 ((a + 1 : Nat) : Int)) (pU τ3 84 63 ((a + 1 : Nat) : Int)) := a7.r.sno u1 u2
      obtain ⟨σ5, g1, g2, g3⟩ := gr_lp (m := m) (σ0 := pU σ3 33 0 ((a + 1 : Nat) : Int)) hm G4.cm m 0 4096 (pU σ3 33 0 ((a + 1 : Nat) : Int)) (by omega) (by omega) (FR.rf _ _) (fun r hr => by
        rw [pU_c _ _ _ _ (by decide), k29 r hr]
        show _ = vr _ (-1) (r : Int)
        unfold vr
        rw [if_neg (by decide), if_pos (by omega), Int.toNat_natCast, pU_c _ _ _ _ (by decide)])
      obtain ⟨τ5, t1, t2, t3⟩ := mg_177 G4 8 0 4096 (pU τ3 84 63 ((a + 1 : Nat) : Int)) (by omega) (by omega) (FR.rf _ _) (fun q hq => by omega)
      rw [if_neg (by rw [pU_s]; omega)] at t1
      have F1 : FR PE (pU σ3 33 0 ((a + 1 : Nat) : Int)) σ5 := g2.mono (fun k x h => Or.inr h)
      have F2 : FR QE (pU τ3 84 63 ((a + 1 : Nat) : Int)) τ5 := t2.mono (fun k x h => Or.inr (Or.inr h))
      have i1 : FR PE σ3 (pU σ3 33 0 ((a + 1 : Nat) : Int)) := FR.u (by unfold PE PN; omega)
      have i2 : FR QE τ3 (pU τ3 84 63 ((a + 1 : Nat) : Int)) := FR.u (by unfold QE QN; omega)
      refine ⟨σ5, τ5, (a9.mono N_PE).tr (i1.tr F1), (a10.mono N_QE).tr (i2.tr F2), Or.inr ⟨((a + 1 : Nat) : Int), ?_, ?_, G4.e F1 F2, ?_, fun j hj => ?_, fun r hr => ?_, ?_, ?_, by omega, by omega, ?_⟩⟩
      · rw [eX, if_neg z]
        show (f_Mach_giveRegisters_3_p2 4096 ((0 : Nat) : Int) (pU σ3 33 0 ((a + 1 : Nat) : Int))).bind _ = _
        rw [g1]
        rfl
      · rw [eM, if_neg z]
        obtain ⟨n3, rfl⟩ : ∃ n, n2 = n + 1 := ⟨n2 - 1, by omega⟩
        show (if (2000 : Int) < ((a + 1 : Nat) : Int) then _ else _) = _
        by_cases y : (2000 : Int) < ((a + 1 : Nat) : Int)
        · rw [if_pos y]
          exact t1
        · rw [if_neg y, pU_s, if_neg (by omega)]
          exact t1
      · exact (R4.all (fun j hj => R4.dn j hj (by rw [pU_c _ _ _ _ (by decide)]; exact all j hj))).sno (g2.mono (fun k x h => by unfold P_sno; omega)) (t2.mono (fun k x h => by unfold Q_sno; omega))
      · rw [g2.get (by decide), pU_c _ _ _ _ (by decide)]
        exact all j hj
      · rw [g3 r hr, t3 r hr]
        have gr := gv_r (pU σ3 33 0 ((a + 1 : Nat) : Int) 8) (r : Int) m
        unfold vr rvl
        by_cases y : gv (pU σ3 33 0 ((a + 1 : Nat) : Int) 8) m (r : Int) = -1
        · rw [if_neg (by omega), if_pos (by omega), if_pos y]
          exact R4.rg _ (by omega)
        · rw [if_pos (by omega), if_neg y]
          have hj : (gv (pU σ3 33 0 ((a + 1 : Nat) : Int) 8) m (r : Int)).toNat < m := by omega
          exact (R4.va _ hj (R4.dn _ hj (by rw [pU_c _ _ _ _ (by decide)]; exact all _ hj))).1
      · rw [g2.get (by decide), pU_s]
      · rw [t2.get (by decide), pU_s]
      · rw [g2.get (by decide), t2.get (by decide), pU_i _ _ _ _ (by decide), pU_i _ _ _ _ (by decide)]
        exact a7.w.1
end CY
theorem fl_33 {a : Int} : ∀ (d i fu : Nat) (σ : pS), i + d = 6 → d < fu → ∃ σ', f_Arrays_fill_33_p5 fu a (i : Int) 6 σ = some (0, σ') ∧ FR (fun k x => k = 33 ∧ i ≤ x) σ σ' ∧ ∀ x, i ≤ x → x < 6 → σ' 33 x = a
  | 0, i, fu, σ, hi, hf => by
    obtain ⟨n, rfl⟩ : ∃ n, fu = n + 1 := ⟨fu - 1, by omega⟩
    refine ⟨σ, ?_, FR.rf _ _, fun x a b => by omega⟩
    show (if (6 : Int) ≤ (i : Int) then _ else _) = _
    rw [if_pos (by omega)]
  | d + 1, i, fu, σ, hi, hf => by
    obtain ⟨n, rfl⟩ : ∃ n, fu = n + 1 := ⟨fu - 1, by omega⟩
    obtain ⟨σ', q1, q2, q3⟩ := fl_33 (a := a) d (i + 1) n (pU σ 33 i a) (by omega) (by omega)
    refine ⟨σ', ?_, (FR.u ⟨rfl, Nat.le_refl i⟩).tr (q2.mono (fun k x h => by omega)), fun x p q => ?_⟩
    · show (if (6 : Int) ≤ (i : Int) then _ else _) = _
      rw [if_neg (by omega), if_pos (by omega), Int.toNat_natCast, pw_s (show i < 6 by omega) (by decide)]
      exact q1
    · by_cases z : x = i
      · rw [z, q2.get (by omega), pU_s]
      · exact q3 x (by omega) q
theorem fl_34 {a : Int} : ∀ (d i fu : Nat) (σ : pS), i + d = 20 → d < fu → ∃ σ', f_Arrays_fill_34_p5 fu a (i : Int) 20 σ = some (0, σ') ∧ FR (fun k x => k = 34 ∧ i ≤ x) σ σ' ∧ ∀ x, i ≤ x → x < 20 → σ' 34 x = a
  | 0, i, fu, σ, hi, hf => by
    obtain ⟨n, rfl⟩ : ∃ n, fu = n + 1 := ⟨fu - 1, by omega⟩
    refine ⟨σ, ?_, FR.rf _ _, fun x a b => by omega⟩
    show (if (20 : Int) ≤ (i : Int) then _ else _) = _
    rw [if_pos (by omega)]
  | d + 1, i, fu, σ, hi, hf => by
    obtain ⟨n, rfl⟩ : ∃ n, fu = n + 1 := ⟨fu - 1, by omega⟩
    obtain ⟨σ', q1, q2, q3⟩ := fl_34 (a := a) d (i + 1) n (pU σ 34 i a) (by omega) (by omega)
    refine ⟨σ', ?_, (FR.u ⟨rfl, Nat.le_refl i⟩).tr (q2.mono (fun k x h => by omega)), fun x p q => ?_⟩
    · show (if (20 : Int) ≤ (i : Int) then _ else _) = _
      rw [if_neg (by omega), if_pos (by omega), Int.toNat_natCast, pw_s (show i < 20 by omega) (by decide)]
      exact q1
    · by_cases z : x = i
      · rw [z, q2.get (by omega), pU_s]
      · exact q3 x (by omega) q
theorem fl_35 {a : Int} : ∀ (d i fu : Nat) (σ : pS), i + d = 20 → d < fu → ∃ σ', f_Arrays_fill_35_p5 fu a (i : Int) 20 σ = some (0, σ') ∧ FR (fun k x => k = 35 ∧ i ≤ x) σ σ' ∧ ∀ x, i ≤ x → x < 20 → σ' 35 x = a
  | 0, i, fu, σ, hi, hf => by
    obtain ⟨n, rfl⟩ : ∃ n, fu = n + 1 := ⟨fu - 1, by omega⟩
    refine ⟨σ, ?_, FR.rf _ _, fun x a b => by omega⟩
    show (if (20 : Int) ≤ (i : Int) then _ else _) = _
    rw [if_pos (by omega)]
  | d + 1, i, fu, σ, hi, hf => by
    obtain ⟨n, rfl⟩ : ∃ n, fu = n + 1 := ⟨fu - 1, by omega⟩
    obtain ⟨σ', q1, q2, q3⟩ := fl_35 (a := a) d (i + 1) n (pU σ 35 i a) (by omega) (by omega)
    refine ⟨σ', ?_, (FR.u ⟨rfl, Nat.le_refl i⟩).tr (q2.mono (fun k x h => by omega)), fun x p q => ?_⟩
    · show (if (20 : Int) ≤ (i : Int) then _ else _) = _
      rw [if_neg (by omega), if_pos (by omega), Int.toNat_natCast, pw_s (show i < 20 by omega) (by decide)]
      exact q1
    · by_cases z : x = i
      · rw [z, q2.get (by omega), pU_s]
      · exact q3 x (by omega) q
theorem fl_36 {a : Int} : ∀ (d i fu : Nat) (σ : pS), i + d = 20 → d < fu → ∃ σ', f_Arrays_fill_36_p5 fu a (i : Int) 20 σ = some (0, σ') ∧ FR (fun k x => k = 36 ∧ i ≤ x) σ σ' ∧ ∀ x, i ≤ x → x < 20 → σ' 36 x = a
  | 0, i, fu, σ, hi, hf => by
    obtain ⟨n, rfl⟩ : ∃ n, fu = n + 1 := ⟨fu - 1, by omega⟩
    refine ⟨σ, ?_, FR.rf _ _, fun x a b => by omega⟩
    show (if (20 : Int) ≤ (i : Int) then _ else _) = _
    rw [if_pos (by omega)]
  | d + 1, i, fu, σ, hi, hf => by
    obtain ⟨n, rfl⟩ : ∃ n, fu = n + 1 := ⟨fu - 1, by omega⟩
    obtain ⟨σ', q1, q2, q3⟩ := fl_36 (a := a) d (i + 1) n (pU σ 36 i a) (by omega) (by omega)
    refine ⟨σ', ?_, (FR.u ⟨rfl, Nat.le_refl i⟩).tr (q2.mono (fun k x h => by omega)), fun x p q => ?_⟩
    · show (if (20 : Int) ≤ (i : Int) then _ else _) = _
      rw [if_neg (by omega), if_pos (by omega), Int.toNat_natCast, pw_s (show i < 20 by omega) (by decide)]
      exact q1
    · by_cases z : x = i
      · rw [z, q2.get (by omega), pU_s]
      · exact q3 x (by omega) q
theorem fl_37 {a : Int} : ∀ (d i fu : Nat) (σ : pS), i + d = 20 → d < fu → ∃ σ', f_Arrays_fill_37_p5 fu a (i : Int) 20 σ = some (0, σ') ∧ FR (fun k x => k = 37 ∧ i ≤ x) σ σ' ∧ ∀ x, i ≤ x → x < 20 → σ' 37 x = a
  | 0, i, fu, σ, hi, hf => by
    obtain ⟨n, rfl⟩ : ∃ n, fu = n + 1 := ⟨fu - 1, by omega⟩
    refine ⟨σ, ?_, FR.rf _ _, fun x a b => by omega⟩
    show (if (20 : Int) ≤ (i : Int) then _ else _) = _
    rw [if_pos (by omega)]
  | d + 1, i, fu, σ, hi, hf => by
    obtain ⟨n, rfl⟩ : ∃ n, fu = n + 1 := ⟨fu - 1, by omega⟩
    obtain ⟨σ', q1, q2, q3⟩ := fl_37 (a := a) d (i + 1) n (pU σ 37 i a) (by omega) (by omega)
    refine ⟨σ', ?_, (FR.u ⟨rfl, Nat.le_refl i⟩).tr (q2.mono (fun k x h => by omega)), fun x p q => ?_⟩
    · show (if (20 : Int) ≤ (i : Int) then _ else _) = _
      rw [if_neg (by omega), if_pos (by omega), Int.toNat_natCast, pw_s (show i < 20 by omega) (by decide)]
      exact q1
    · by_cases z : x = i
      · rw [z, q2.get (by omega), pU_s]
      · exact q3 x (by omega) q
theorem fl_38 {a : Int} : ∀ (d i fu : Nat) (σ : pS), i + d = 80 → d < fu → ∃ σ', f_Arrays_fill_38_p5 fu a (i : Int) 80 σ = some (0, σ') ∧ FR (fun k x => k = 38 ∧ i ≤ x) σ σ' ∧ ∀ x, i ≤ x → x < 80 → σ' 38 x = a
  | 0, i, fu, σ, hi, hf => by
    obtain ⟨n, rfl⟩ : ∃ n, fu = n + 1 := ⟨fu - 1, by omega⟩
    refine ⟨σ, ?_, FR.rf _ _, fun x a b => by omega⟩
    show (if (80 : Int) ≤ (i : Int) then _ else _) = _
    rw [if_pos (by omega)]
  | d + 1, i, fu, σ, hi, hf => by
    obtain ⟨n, rfl⟩ : ∃ n, fu = n + 1 := ⟨fu - 1, by omega⟩
    obtain ⟨σ', q1, q2, q3⟩ := fl_38 (a := a) d (i + 1) n (pU σ 38 i a) (by omega) (by omega)
    refine ⟨σ', ?_, (FR.u ⟨rfl, Nat.le_refl i⟩).tr (q2.mono (fun k x h => by omega)), fun x p q => ?_⟩
    · show (if (80 : Int) ≤ (i : Int) then _ else _) = _
      rw [if_neg (by omega), if_pos (by omega), Int.toNat_natCast, pw_s (show i < 80 by omega) (by decide)]
      exact q1
    · by_cases z : x = i
      · rw [z, q2.get (by omega), pU_s]
      · exact q3 x (by omega) q
theorem fl_39 {a : Int} : ∀ (d i fu : Nat) (σ : pS), i + d = 20 → d < fu → ∃ σ', f_Arrays_fill_39_p5 fu a (i : Int) 20 σ = some (0, σ') ∧ FR (fun k x => k = 39 ∧ i ≤ x) σ σ' ∧ ∀ x, i ≤ x → x < 20 → σ' 39 x = a
  | 0, i, fu, σ, hi, hf => by
    obtain ⟨n, rfl⟩ : ∃ n, fu = n + 1 := ⟨fu - 1, by omega⟩
    refine ⟨σ, ?_, FR.rf _ _, fun x a b => by omega⟩
    show (if (20 : Int) ≤ (i : Int) then _ else _) = _
    rw [if_pos (by omega)]
  | d + 1, i, fu, σ, hi, hf => by
    obtain ⟨n, rfl⟩ : ∃ n, fu = n + 1 := ⟨fu - 1, by omega⟩
    obtain ⟨σ', q1, q2, q3⟩ := fl_39 (a := a) d (i + 1) n (pU σ 39 i a) (by omega) (by omega)
    refine ⟨σ', ?_, (FR.u ⟨rfl, Nat.le_refl i⟩).tr (q2.mono (fun k x h => by omega)), fun x p q => ?_⟩
    · show (if (20 : Int) ≤ (i : Int) then _ else _) = _
      rw [if_neg (by omega), if_pos (by omega), Int.toNat_natCast, pw_s (show i < 20 by omega) (by decide)]
      exact q1
    · by_cases z : x = i
      · rw [z, q2.get (by omega), pU_s]
      · exact q3 x (by omega) q
theorem bg_28 : ∀ (d i fu : Nat) (σ : pS), i + d = 20 → d < fu → ∃ σ', f_Mach_begin_3_p28 fu (i : Int) σ = some (0, σ') ∧ FR (fun k x => k = 41 ∧ i ≤ x) σ σ' ∧ ∀ x, i ≤ x → x < 20 → σ' 41 x = 0
  | 0, i, fu, σ, hi, hf => by
    obtain ⟨n, rfl⟩ : ∃ n, fu = n + 1 := ⟨fu - 1, by omega⟩
    refine ⟨σ, ?_, FR.rf _ _, fun x a b => by omega⟩
    show (if (20 : Int) ≤ (i : Int) then _ else _) = _
    rw [if_pos (by omega)]
  | d + 1, i, fu, σ, hi, hf => by
    obtain ⟨n, rfl⟩ : ∃ n, fu = n + 1 := ⟨fu - 1, by omega⟩
    obtain ⟨σ', q1, q2, q3⟩ := bg_28 d (i + 1) n (pU σ 41 i 0) (by omega) (by omega)
    refine ⟨σ', ?_, (FR.u ⟨rfl, Nat.le_refl i⟩).tr (q2.mono (fun k x h => by omega)), fun x p q => ?_⟩
    · show (if (20 : Int) ≤ (i : Int) then _ else _) = _
      rw [if_neg (by omega), if_pos (by omega), Int.toNat_natCast, pw_s (show i < 20 by omega) (by decide)]
      exact q1
    · by_cases z : x = i
      · rw [z, q2.get (by omega), pU_s]
      · exact q3 x (by omega) q
def PB (k x : Nat) : Prop := (k = 28 ∧ 3 ≤ x ∧ x ≤ 5) ∨ (29 ≤ k ∧ k ≤ 39) ∨ k = 41
/-- the class's run begins -/
theorem bg_ls (σ : pS) : ∃ σ', f_Mach_begin_3 σ = some (0, σ') ∧ FR PB σ σ' ∧ (∀ r, r < 8 → σ' 29 r = σ 25 r) ∧ (∀ x, x < 64 → σ' 30 x = σ 26 x) ∧ (∀ j, j < 20 → σ' 31 j = σ 27 j) ∧ σ' 28 3 = σ 24 3 ∧ σ' 28 4 = σ 24 4 ∧ σ' 28 5 = σ 24 5 ∧ (∀ x, x < 6 → σ' 33 x = 0) ∧ (∀ j, j < 20 → σ' 35 j = 0) ∧ (∀ j, j < 20 → σ' 39 j = 0) ∧ (∀ j, j < 20 → σ' 41 j = 0) := by
  obtain ⟨s0, e0⟩ : ∃ s0, pU (pU (pKp (pKp σ 25 29 8) 26 30 64) 28 4 (σ 24 4)) 28 5 (σ 24 5) = s0 := ⟨_, rfl⟩
  obtain ⟨s1, e1⟩ : ∃ s1, pU (pKp s0 27 31 20) 28 3 (s0 24 3) = s1 := ⟨_, rfl⟩
  have f0 : FR (fun k x => (k = 28 ∧ (x = 4 ∨ x = 5)) ∨ k = 29 ∨ k = 30) σ s0 := by
    rw [← e0]
    exact (((FR.kp (fun x _ => by omega)).tr (FR.kp (fun x _ => by omega))).tr (FR.u (by omega))).tr (FR.u (by omega))
  have f1 : FR (fun k x => (k = 28 ∧ x = 3) ∨ k = 31) s0 s1 := by
    rw [← e1]
    exact (FR.kp (fun x _ => by omega)).tr (FR.u (by omega))
  obtain ⟨s2, a2, b2, c2⟩ := fl_33 (a := 0) 6 0 4096 s1 (by omega) (by omega)
  obtain ⟨s3, a3, b3, c3⟩ := fl_34 (a := 0) 20 0 4096 s2 (by omega) (by omega)
  obtain ⟨s4, a4, b4, c4⟩ := fl_35 (a := 0) 20 0 4096 s3 (by omega) (by omega)
  obtain ⟨s5, a5, b5, c5⟩ := fl_36 (a := 0) 20 0 4096 s4 (by omega) (by omega)
  obtain ⟨s6, a6, b6, c6⟩ := fl_37 (a := 0) 20 0 4096 s5 (by omega) (by omega)
  obtain ⟨s7, a7, b7, c7⟩ := fl_38 (a := -1) 80 0 4096 s6 (by omega) (by omega)
  obtain ⟨s8, a8, b8, c8⟩ := fl_39 (a := 0) 20 0 4096 s7 (by omega) (by omega)
  obtain ⟨s9, a9, b9, c9⟩ := bg_28 20 0 4096 s8 (by omega) (by omega)
  have k1 : f_State_copyFrom_28_24 σ = some (0, s1) := by
    unfold f_State_copyFrom_28_24 f_State_copyCellsFrom_28_24
    rw [e0, Option.bind_some]
    unfold f_State_copySetsFrom_28_24
    dsimp only
    rw [e1, Option.bind_some]
  have k2 : f_Rep_clear_32 s1 = some (0, s7) := by
    unfold f_Rep_clear_32
    rw [show f_Arrays_fill_33 0 s1 = some (0, s2) from a2, Option.bind_some]
    dsimp only
    rw [show f_Arrays_fill_34 0 s2 = some (0, s3) from a3, Option.bind_some]
    dsimp only
    rw [show f_Arrays_fill_35 0 s3 = some (0, s4) from a4, Option.bind_some]
    dsimp only
    rw [show f_Arrays_fill_36 0 s4 = some (0, s5) from a5, Option.bind_some]
    dsimp only
    rw [show f_Arrays_fill_37 0 s5 = some (0, s6) from a6, Option.bind_some]
    dsimp only
    rw [show f_Arrays_fill_38 (-1) s6 = some (0, s7) from a7, Option.bind_some]
  have g : ∀ k x, (∀ P ∈ [33, 34, 35, 36, 37, 38, 39, 41], k ≠ P) → s9 k x = s1 k x := fun k x h => by
    have h33 := h 33 (by decide)
    have h34 := h 34 (by decide)
    have h35 := h 35 (by decide)
    have h36 := h 36 (by decide)
    have h37 := h 37 (by decide)
    have h38 := h 38 (by decide)
    have h39 := h 39 (by decide)
    have h41 := h 41 (by decide)
    rw [b9.get (by omega), b8.get (by omega), b7.get (by omega), b6.get (by omega), b5.get (by omega), b4.get (by omega), b3.get (by omega), b2.get (by omega)]
  refine ⟨s9, ?_, ?_, fun r hr => ?_, fun x hx => ?_, fun j hj => ?_, ?_, ?_, ?_, fun x hx => ?_, fun j hj => ?_, fun j hj => ?_, fun j hj => c9 j (by omega) hj⟩
  · unfold f_Mach_begin_3
    rw [k1, Option.bind_some]
    dsimp only
    rw [k2, Option.bind_some]
    dsimp only
    rw [show f_Arrays_fill_39 0 s7 = some (0, s8) from a8, Option.bind_some]
    exact a9
  · intro k x
    by_cases z : PB k x
    · exact Or.inl z
    · refine Or.inr ?_
      unfold PB at z
      rw [b9.get (by omega), b8.get (by omega), b7.get (by omega), b6.get (by omega), b5.get (by omega), b4.get (by omega), b3.get (by omega), b2.get (by omega), f1.get (by omega), f0.get (by omega)]
  · rw [g _ _ (by decide), f1.get (by omega), ← e0, pU_c _ _ _ _ (by decide), pU_c _ _ _ _ (by decide), pKp_o (by decide), pKp_d hr]
  · rw [g _ _ (by decide), f1.get (by omega), ← e0, pU_c _ _ _ _ (by decide), pU_c _ _ _ _ (by decide), pKp_d hx, pKp_o (by decide)]
  · rw [g _ _ (by decide), ← e1, pU_c _ _ _ _ (by decide), pKp_d hj, f0.get (by omega)]
  · rw [g _ _ (by decide), ← e1, pU_s, f0.get (by omega)]
  · rw [g _ _ (by decide), f1.get (by omega), ← e0, pU_i _ _ _ _ (by decide), pU_s]
  · rw [g _ _ (by decide), f1.get (by omega), ← e0, pU_s]
  · rw [b9.get (by omega), b8.get (by omega), b7.get (by omega), b6.get (by omega), b5.get (by omega), b4.get (by omega), b3.get (by omega)]
    exact c2 x (by omega) hx
  · rw [b9.get (by omega), b8.get (by omega), b7.get (by omega), b6.get (by omega), b5.get (by omega)]
    exact c4 j (by omega) hj
  · rw [b9.get (by omega)]
    exact c8 j (by omega) hj
/-- the reference's run begins -/
theorem gt_38 {m : Nat} {w : Int} (hm : m ≤ 20) : ∀ (d i fu : Nat) (τ : pS), i + d = m → d < fu → τ 84 2 = (m : Int) → ∃ τ', f_M_goesThrough_84_p38 fu w (i : Int) τ = f_M_goesThrough_84_p95 4096 w 0 τ' ∧ FR (fun k x => ((k = 118 ∨ k = 126 ∨ k = 123 ∨ k = 129) ∧ i ≤ x) ∨ (k = 84 ∧ x = 69)) τ τ' ∧ (∀ j, i ≤ j → j < m → τ' 118 j = 0 ∧ τ' 126 j = 0 ∧ τ' 123 j = 0 ∧ τ' 129 j = τ 87 j) ∧ τ' 84 69 = τ 84 3
  | 0, i, fu, τ, hi, hf, h2 => by
    obtain ⟨n, rfl⟩ : ∃ n, fu = n + 1 := ⟨fu - 1, by omega⟩
    refine ⟨pU τ 84 69 (τ 84 3), ?_, FR.u (by omega), fun x a b => by omega, pU_s _ _ _ _⟩
    show (if τ 84 2 ≤ (i : Int) then _ else _) = _
    rw [if_pos (by omega)]
  | d + 1, i, fu, τ, hi, hf, h2 => by
    obtain ⟨n, rfl⟩ : ∃ n, fu = n + 1 := ⟨fu - 1, by omega⟩
    have g : (0 : Int) ≤ (i : Int) ∧ (i : Int) < 20 := by omega
    obtain ⟨t1, e1⟩ : ∃ t1, pU (pU (pU (pU τ 118 i 0) 126 i 0) 123 i 0) 129 i (τ 87 i) = t1 := ⟨_, rfl⟩
    have f1 : FR (fun k x => (k = 118 ∨ k = 126 ∨ k = 123 ∨ k = 129) ∧ x = i) τ t1 := by
      rw [← e1]
      exact (((FR.u (by omega)).tr (FR.u (by omega))).tr (FR.u (by omega))).tr (FR.u (by omega))
    obtain ⟨τ', q1, q2, q3, q4⟩ := gt_38 (w := w) hm d (i + 1) n t1 (by omega) (by omega) ((f1.get (by omega)).trans h2)
    refine ⟨τ', ?_, (f1.mono (fun k x h => by omega)).tr (q2.mono (fun k x h => by omega)), fun j p q => ?_, q4.trans (f1.get (by omega))⟩
    · show (if τ 84 2 ≤ (i : Int) then _ else _) = _
      rw [if_neg (by omega), if_pos g, if_pos g, if_pos g, if_pos g, if_pos g, Int.toNat_natCast, pw_s (show i < 20 by omega) (by decide), e1]
      exact q1
    · by_cases z : j = i
      · rw [z, q2.get (by omega), q2.get (by omega), q2.get (by omega), q2.get (by omega), ← e1, pU_c _ _ _ _ (by decide), pU_c _ _ _ _ (by decide), pU_c _ _ _ _ (by decide), pU_s, pU_c _ _ _ _ (by decide), pU_c _ _ _ _ (by decide), pU_s, pU_c _ _ _ _ (by decide), pU_s, pU_s]
        exact ⟨rfl, rfl, rfl, rfl⟩
      · have y := q3 j (by omega) q
        rw [f1.get (k := 87) (by omega)] at y
        exact y
theorem gt_95 {w : Int} : ∀ (d i fu : Nat) (τ : pS), i + d = 64 → d < fu → ∃ τ', f_M_goesThrough_84_p95 fu w (i : Int) τ = f_M_goesThrough_84_p133 4096 w 0 τ' ∧ FR (fun k x => (k = 127 ∨ k = 128) ∧ i ≤ x) τ τ' ∧ (∀ x, i ≤ x → x < 64 → τ' 127 x = τ 86 x ∧ τ' 128 x = τ 86 x)
  | 0, i, fu, τ, hi, hf => by
    obtain ⟨n, rfl⟩ : ∃ n, fu = n + 1 := ⟨fu - 1, by omega⟩
    refine ⟨τ, ?_, FR.rf _ _, fun x a b => by omega⟩
    show (if (64 : Int) ≤ (i : Int) then _ else _) = _
    rw [if_pos (by omega)]
  | d + 1, i, fu, τ, hi, hf => by
    obtain ⟨n, rfl⟩ : ∃ n, fu = n + 1 := ⟨fu - 1, by omega⟩
    have g : (0 : Int) ≤ (i : Int) ∧ (i : Int) < 64 := by omega
    obtain ⟨t1, e1⟩ : ∃ t1, pU (pU τ 127 i (τ 86 i)) 128 i (τ 86 i) = t1 := ⟨_, rfl⟩
    have f1 : FR (fun k x => (k = 127 ∨ k = 128) ∧ x = i) τ t1 := by
      rw [← e1]
      exact (FR.u (by omega)).tr (FR.u (by omega))
    obtain ⟨τ', q1, q2, q3⟩ := gt_95 (w := w) d (i + 1) n t1 (by omega) (by omega)
    refine ⟨τ', ?_, (f1.mono (fun k x h => by omega)).tr (q2.mono (fun k x h => by omega)), fun j p q => ?_⟩
    · show (if (64 : Int) ≤ (i : Int) then _ else _) = _
      rw [if_neg (by omega), if_pos g, if_pos g, if_pos g, if_pos g, Int.toNat_natCast, pw_s (show i < 64 by omega) (by decide), e1]
      exact q1
    · by_cases z : j = i
      · rw [z, q2.get (by omega), q2.get (by omega), ← e1, pU_c _ _ _ _ (by decide), pU_s, pU_s]
        exact ⟨rfl, rfl⟩
      · have y := q3 j (by omega) q
        rw [f1.get (k := 86) (by omega)] at y
        exact y
/-- what lies between the calls in both: registers, memory, sets, draws, runs -/
def SR (m : Nat) (σ τ : pS) : Prop := (∀ r, r < 8 → σ 25 r = τ 85 r) ∧ (∀ x, x < 64 → σ 26 x = τ 86 x) ∧ (∀ j, j < m → σ 27 j = τ 87 j ∧ -1 ≤ σ 27 j ∧ σ 27 j ≤ 15) ∧ (σ 24 3 = τ 84 3 ∧ 0 ≤ σ 24 3 ∧ σ 24 3 ≤ 15) ∧ (σ 24 5 = τ 84 0 ∧ 0 ≤ σ 24 5 ∧ σ 24 5 ≤ 65535) ∧ σ 24 4 = τ 84 1
def PTn (k x : Nat) : Prop := (k = 3 ∧ x = 11) ∨ k = 22 ∨ k = 23 ∨ (28 ≤ k ∧ k ≤ 44)
def QTn (k x : Nat) : Prop := (k = 84 ∧ (x = 0 ∨ x = 3 ∨ (63 ≤ x ∧ x ≤ 72))) ∨ k = 87 ∨ k = 108 ∨ k = 109 ∨ (118 ≤ k ∧ k ≤ 133)
section RUN
variable {m mL : Nat} {rec : Nat → O8} {c : Cd} {R : Nat → Ru} {σ τ σ' τ' : pS}
theorem PG.t (h : PG m rec σ τ) (h1 : FR PTn σ σ') (h2 : FR QTn τ τ') : PG m rec σ' τ' := by
  have a : ∀ k x, 4 ≤ k → k ≤ 13 → σ' k x = σ k x := fun k x p q => h1.get (by unfold PTn; omega)
  have b : ∀ k x, 88 ≤ k → k ≤ 95 → τ' k x = τ k x := fun k x p q => h2.get (by unfold QTn; omega)
  have e8 : σ' 8 = σ 8 := funext (fun x => a 8 x (by decide) (by decide))
  refine ⟨h.le, (a _ _ (by decide) (by decide)).trans h.cm, (h2.get (by unfold QTn; omega)).trans h.mm, fun j hj => ?_, fun j hj => ?_⟩
  · obtain ⟨c1, c2, c3⟩ := h.op j hj
    refine ⟨?_, ?_, c3⟩
    · unfold CRp at *
      rw [a 5 _ (by decide) (by decide), a 6 _ (by decide) (by decide), a 7 _ (by decide) (by decide), a 8 _ (by decide) (by decide), a 9 _ (by decide) (by decide), a 10 _ (by decide) (by decide), a 11 _ (by decide) (by decide)]
      exact c1
    · unfold MRp at *
      rw [b 88 _ (by decide) (by decide), b 89 _ (by decide) (by decide), b 90 _ (by decide) (by decide), b 91 _ (by decide) (by decide), b 92 _ (by decide) (by decide), b 93 _ (by decide) (by decide), b 94 _ (by decide) (by decide), b 95 _ (by decide) (by decide)]
      exact c2
  · rw [a 12 _ (by decide) (by decide), a 13 _ (by decide) (by decide), a 9 _ (by decide) (by decide), a 10 _ (by decide) (by decide), e8]
    exact h.so j hj
theorem LW.t (h : LW mL c R σ τ) (h1 : FR PTn σ σ') (h2 : FR QTn τ τ') : LW mL c R σ' τ' := h.mv (h1.get (by unfold PTn; omega)) (fun k x _ _ => h1.get (by unfold PTn; omega)) (h2.get (by unfold QTn; omega)) (fun k x _ _ => h2.get (by unfold QTn; omega))
/-- a whole run in both: w wide, lw: by the law or not -/
theorem rn_ls {w lw : Int} (hlw : lw = 0 ∨ lw = 1) (hG : PG m rec σ τ) (hS : SR m σ τ) (hS2 : ∀ j, m ≤ j → j < 20 → σ 27 j = -1) (hL : LW mL c R σ τ) : ∃ σ' τ', FR PTn σ σ' ∧ FR QTn τ τ' ∧ σ' 28 4 = σ 24 4 ∧ (∀ j, j < m → τ' 129 j = τ 87 j) ∧ τ' 84 69 = τ 84 3 ∧ ((f_Mach_go_3 w lw σ = some (-5, σ') ∧ f_M_goesThrough_84 w lw τ = some (0, τ') ∧ τ' 84 0 = σ' 28 5 ∧ 0 ≤ σ' 28 5 ∧ σ' 28 5 ≤ 65535) ∨ ∃ t, f_Mach_go_3 w lw σ = some (t, σ') ∧ f_M_goesThrough_84 w lw τ = some (1, τ') ∧ RE m rec t σ' τ') := by
  have hm := hG.le
  obtain ⟨S1, S2, S3, S4, S5, S6⟩ := hS
  obtain ⟨σ1, a1, a2, a3, a4, a5, a6, a7, a8, a9, a10, a11, a12⟩ := bg_ls σ
  obtain ⟨t0, e0⟩ : ∃ t0, pU (pU (pU (pU (pU (pU (pU τ 84 70 lw) 84 63 (-5)) 84 64 0) 84 65 0) 84 66 0) 84 67 0) 84 68 0 = t0 := ⟨_, rfl⟩
  have f0 : FR (fun k x => k = 84 ∧ 63 ≤ x ∧ x ≤ 70 ∧ x ≠ 69) τ t0 := by
    rw [← e0]
    exact ((((((FR.u (by omega)).tr (FR.u (by omega))).tr (FR.u (by omega))).tr (FR.u (by omega))).tr (FR.u (by omega))).tr (FR.u (by omega))).tr (FR.u (by omega))
  obtain ⟨t1, b1, b2, b3, b4⟩ := gt_38 (w := w) hm m 0 4096 t0 (by omega) (by omega) ((f0.get (by omega)).trans hG.mm)
  obtain ⟨t2, c1, c2, c3⟩ := gt_95 (w := w) 64 0 4096 t1 (by omega) (by omega)
  have A : FR PTn σ σ1 := a2.mono (fun k x h => by unfold PB at h; unfold PTn; omega)
  have B : FR QTn τ t2 := ((f0.mono (fun k x h => by unfold QTn; omega)).tr (b2.mono (fun k x h => by unfold QTn; omega))).tr (c2.mono (fun k x h => by unfold QTn; omega))
  have hG1 := hG.t A B
  have hL1 := hL.t A B
  have o : ∀ k x, k ≠ 127 → k ≠ 128 → k ≠ 118 → k ≠ 126 → k ≠ 123 → k ≠ 129 → k ≠ 84 → t2 k x = τ k x := fun k x h1 h2 h3 h4 h5 h6 h7 => by
    rw [c2.get (by omega), b2.get (by omega), f0.get (by omega)]
  have o84 : ∀ x, x ≠ 69 → t2 84 x = t0 84 x := fun x h => by
    rw [c2.get (by omega), b2.get (by omega)]
  have oj : ∀ j, j < m → t2 118 j = 0 ∧ t2 126 j = 0 ∧ t2 123 j = 0 ∧ t2 129 j = τ 87 j := fun j hj => by
    have z := b3 j (by omega) hj
    rw [f0.get (k := 87) (by omega)] at z
    rw [c2.get (k := 118) (by omega), c2.get (k := 126) (by omega), c2.get (k := 123) (by omega), c2.get (k := 129) (by omega)]
    exact z
  have e70 : t2 84 70 = lw := by rw [o84 _ (by decide), ← e0, pU_i _ _ _ _ (by decide), pU_i _ _ _ _ (by decide), pU_i _ _ _ _ (by decide), pU_i _ _ _ _ (by decide), pU_i _ _ _ _ (by decide), pU_i _ _ _ _ (by decide), pU_s]
  have e63 : t2 84 63 = -5 := by rw [o84 _ (by decide), ← e0, pU_i _ _ _ _ (by decide), pU_i _ _ _ _ (by decide), pU_i _ _ _ _ (by decide), pU_i _ _ _ _ (by decide), pU_i _ _ _ _ (by decide), pU_s]
  have e64 : t2 84 64 = 0 := by rw [o84 _ (by decide), ← e0, pU_i _ _ _ _ (by decide), pU_i _ _ _ _ (by decide), pU_i _ _ _ _ (by decide), pU_i _ _ _ _ (by decide), pU_s]
  have e65 : t2 84 65 = 0 := by rw [o84 _ (by decide), ← e0, pU_i _ _ _ _ (by decide), pU_i _ _ _ _ (by decide), pU_i _ _ _ _ (by decide), pU_s]
  have e66 : t2 84 66 = 0 := by rw [o84 _ (by decide), ← e0, pU_i _ _ _ _ (by decide), pU_i _ _ _ _ (by decide), pU_s]
  have e67 : t2 84 67 = 0 := by rw [o84 _ (by decide), ← e0, pU_i _ _ _ _ (by decide), pU_s]
  have e68 : t2 84 68 = 0 := by rw [o84 _ (by decide), ← e0, pU_s]
  have eo : ∀ x, x < 63 → t2 84 x = τ 84 x := fun x h => by rw [o84 _ (by omega), f0.get (by omega)]
  have e69 : t2 84 69 = τ 84 3 := by rw [c2.get (by omega), b4, f0.get (by omega)]
  have e26 : ∀ x, σ1 26 x = σ 26 x := fun x => a2.get (by unfold PB; omega)
  have e25 : ∀ x, σ1 25 x = σ 25 x := fun x => a2.get (by unfold PB; omega)
  have hR : RM m (fun _ => False) σ1 t2 := by
    refine ⟨fun j hj => ?_, fun j hj q => ?_, fun j hj => ?_, fun j hj q => ?_, fun j hj q => q.elim, fun j hj q => ?_, fun j hj q => ?_, fun j hj => ?_, fun x hx => ?_, fun x hx => ?_, fun j hj => ?_, ?_, ?_, ?_, ?_, ?_, ?_, ?_, fun r hr => ?_, fun j hj h20 => ?_⟩
    · rw [a11 j (by omega), (oj j hj).1]; exact ⟨rfl, by decide, by decide⟩
    · rw [a11 j (by omega)] at q; exact absurd q (by decide)
    · rw [a12 j (by omega), (oj j hj).2.1]; exact ⟨rfl, by decide, by decide⟩
    · rw [a12 j (by omega)] at q; exact absurd q (by decide)
    · rw [a11 j (by omega)] at q; exact absurd q (by decide)
    · rw [a11 j (by omega)] at q; exact absurd rfl q
    · rw [a10 j (by omega), (oj j hj).2.2.1]
    · have z := (c3 x (by omega) hx).2
      rw [a4 x hx, z, b2.get (by omega), f0.get (by omega)]; exact S2 x hx
    · have z := (c3 x (by omega) hx).1
      rw [e26, z, b2.get (by omega), f0.get (by omega)]; exact S2 x hx
    · rw [a5 j (by omega), o 87 j (by decide) (by decide) (by decide) (by decide) (by decide) (by decide) (by decide)]; exact S3 j hj
    · rw [a6, eo 3 (by decide)]; exact S4
    · rw [a8, eo 0 (by decide)]; exact S5
    · rw [a9 2 (by decide), e65]
    · rw [a9 3 (by decide), e66]
    · rw [a9 4 (by decide), e67]
    · rw [a9 5 (by decide), e68]
    · rw [eo 1 (by decide), a2.get (k := 24) (by unfold PB; omega)]; exact S6
    · rw [e25, o 85 r (by decide) (by decide) (by decide) (by decide) (by decide) (by decide) (by decide)]; exact S1 r hr
    · rw [a5 j h20]; exact hS2 j hj h20
  have H1 : RN m rec (fun _ => False) σ1 t2 := ⟨hG1, hR, fun j hj q => by rw [a12 j (by omega)] at q; exact absurd q (by decide), fun k hk hD => hD.elim, by unfold CW; rw [a9 1 (by decide), e64]; decide⟩
  obtain ⟨σ2, τ2, p1, p2, p3⟩ := cy_lp (w := w) hlw 2001 0 4096 4096 (fun _ => False) σ1 t2 (by omega) (by omega) (by omega) e63 e70 H1 hL1 (fun r hr => by rw [a3 r hr, e25])
  have P : FR PTn σ1 σ2 := p1.mono (fun k x h => by unfold PE PN at h; unfold PTn; omega)
  have Q : FR QTn t2 τ2 := p2.mono (fun k x h => by unfold QE QN at h; unfold QTn; omega)
  have gX : f_Mach_go_3 w lw σ = f_Mach_go_3_p6 4096 w lw ((0 : Nat) : Int) σ1 := by
    unfold f_Mach_go_3
    rw [a1, Option.bind_some]
    rfl
  have gM : f_M_goesThrough_84 w lw τ = f_M_goesThrough_84_p133 4096 w ((0 : Nat) : Int) t2 := by
    unfold f_M_goesThrough_84
    rw [if_pos (by omega), e0]
    exact b1.trans c1
  refine ⟨σ2, τ2, A.tr P, B.tr Q, ?_, fun j hj => ?_, ?_, ?_⟩
  · rw [p1.get (by unfold PE PN; omega), a7]
  · rw [p2.get (by unfold QE QN; omega)]; exact (oj j hj).2.2.2
  · rw [p2.get (by unfold QE QN; omega), e69]
  · rw [gX, gM]
    exact p3
end RUN
