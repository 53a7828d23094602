def P_off (i k x : Nat) : Prop := ((k = 39 ∨ k = 40) ∧ x = i) ∨ k = 23
def Q_off (i k x : Nat) : Prop := ((k = 118 ∨ k = 119) ∧ x = i) ∨ k = 108
theorem RM.soff {m : Nat} {D : Nat → Prop} {σ τ σ' τ' : pS} {i : Nat} (h : RM m D σ τ) (a1 : FR (P_off i) σ σ') (a2 : FR (Q_off i) τ τ') (g1 : σ' 39 i = 1) (g2 : τ' 118 i = 1) (g3 : σ' 40 i = τ' 119 i) (g4 : (0 ≤ σ 12 i → D (σ 12 i).toNat) ∧ (0 ≤ σ 13 i → D (σ 13 i).toNat)) : RM m D σ' τ' := ⟨fun j hj => by
    by_cases hji : j = i
    · rw [hji, g1, g2]; exact ⟨rfl, by decide, by decide⟩
    · rw [a1.get (k := 39) (x := j) (by unfold P_off; omega), a2.get (k := 118) (x := j) (by unfold Q_off; omega)]; exact h.st j hj,
  fun j hj q => by
    by_cases hji : j = i
    · rw [hji]; exact g3
    · rw [a1.get (k := 39) (x := j) (by unfold P_off; omega)] at q; rw [a1.get (k := 40) (x := j) (by unfold P_off; omega), a2.get (k := 119) (x := j) (by unfold Q_off; omega)]; exact h.ti j hj q,
  fun j hj => by rw [a1.get (k := 41) (x := j) (by unfold P_off; omega), a2.get (k := 126) (x := j) (by unfold Q_off; omega)]; exact h.rt j hj,
  fun j hj q => by rw [a1.get (k := 41) (x := j) (by unfold P_off; omega)] at q; have z := h.re j hj q; rw [a1.get (k := 5) (x := j) (by unfold P_off; omega), a1.get (k := 37) (x := j) (by unfold P_off; omega), a1.get (k := 7) (x := j) (by unfold P_off; omega), a2.get (k := 132) (x := j) (by unfold Q_off; omega)]; exact ⟨z.1, z.2.1, fun e he => by rw [a1.get (k := 42) (x := 4 * j + e) (by unfold P_off; omega), a2.get (k := 125) (x := 4 * j + e) (by unfold Q_off; omega)]; exact z.2.2 e he⟩,
  fun j hj q => by have z := h.va j hj q; rw [a1.get (k := 36) (x := j) (by unfold P_off; omega), a1.get (k := 34) (x := j) (by unfold P_off; omega), a1.get (k := 5) (x := j) (by unfold P_off; omega), a1.get (k := 37) (x := j) (by unfold P_off; omega), a1.get (k := 7) (x := j) (by unfold P_off; omega), a2.get (k := 120) (x := j) (by unfold Q_off; omega), a2.get (k := 122) (x := j) (by unfold Q_off; omega), a2.get (k := 121) (x := j) (by unfold Q_off; omega)]; exact ⟨z.1, z.2.1, z.2.2.1, fun k e he => by rw [a1.get (k := 38) (x := 4 * j + e) (by unfold P_off; omega), a2.get (k := 124) (x := 4 * j + e) (by unfold Q_off; omega)]; exact z.2.2.2 k e he⟩,
  fun j hj q => by
    by_cases hji : j = i
    · rw [hji, g1] at q; exact absurd q (by decide)
    · rw [a1.get (k := 39) (x := j) (by unfold P_off; omega)] at q; exact h.dn j hj q,
  fun j hj q => by
    rw [a1.get (k := 12) (x := j) (by unfold P_off; omega), a1.get (k := 13) (x := j) (by unfold P_off; omega)]
    by_cases hji : j = i
    · rw [hji]; exact g4
    · rw [a1.get (k := 39) (x := j) (by unfold P_off; omega)] at q; exact h.so j hj q,
  fun j hj => by rw [a1.get (k := 35) (x := j) (by unfold P_off; omega), a2.get (k := 123) (x := j) (by unfold Q_off; omega)]; exact h.rp j hj,
  fun j hj => by rw [a1.get (k := 30) (x := j) (by unfold P_off; omega), a2.get (k := 128) (x := j) (by unfold Q_off; omega)]; exact h.me j hj,
  fun j hj => by rw [a1.get (k := 26) (x := j) (by unfold P_off; omega), a2.get (k := 127) (x := j) (by unfold Q_off; omega)]; exact h.m0 j hj,
  fun j hj => by rw [a1.get (k := 31) (x := j) (by unfold P_off; omega), a2.get (k := 87) (x := j) (by unfold Q_off; omega)]; exact h.se j hj,
  by rw [a1.get (k := 28) (x := 3) (by unfold P_off; omega), a2.get (k := 84) (x := 3) (by unfold Q_off; omega)]; exact h.ns,
  by rw [a1.get (k := 28) (x := 5) (by unfold P_off; omega), a2.get (k := 84) (x := 0) (by unfold Q_off; omega)]; exact h.x,
  by rw [a1.get (k := 33) (x := 2) (by unfold P_off; omega), a2.get (k := 84) (x := 65) (by unfold Q_off; omega)]; exact h.cr,
  by rw [a1.get (k := 33) (x := 3) (by unfold P_off; omega), a2.get (k := 84) (x := 66) (by unfold Q_off; omega)]; exact h.ca,
  by rw [a1.get (k := 33) (x := 4) (by unfold P_off; omega), a2.get (k := 84) (x := 67) (by unfold Q_off; omega)]; exact h.cu,
  by rw [a1.get (k := 33) (x := 5) (by unfold P_off; omega), a2.get (k := 84) (x := 68) (by unfold Q_off; omega)]; exact h.cd,
  by rw [a1.get (k := 24) (x := 4) (by unfold P_off; omega), a2.get (k := 84) (x := 1) (by unfold Q_off; omega)]; exact h.ru,
  fun j hj => by rw [a1.get (k := 25) (x := j) (by unfold P_off; omega), a2.get (k := 85) (x := j) (by unfold Q_off; omega)]; exact h.rg j hj,
  fun j hj h20 => by rw [a1.get (k := 31) (x := j) (by unfold P_off; omega)]; exact h.sh j hj h20⟩
theorem pAnd_16 {a : Int} (h0 : 0 ≤ a) (h1 : a < 2147483648) : pAnd a 65535 = a % 65536 := by
  show ((Int32.ofInt a).toBitVec &&& 65535#32).toInt = _
  have e : ((Int32.ofInt a).toBitVec).toNat = a.toNat := by
    show (BitVec.ofInt 32 a).toNat = a.toNat
    rw [BitVec.toNat_ofInt]
    omega
  have h : ((Int32.ofInt a).toBitVec &&& 65535#32).toNat = a.toNat % 65536 := by
    rw [BitVec.toNat_and, e]
    show a.toNat &&& (2 ^ 16 - 1) = a.toNat % 2 ^ 16
    exact Nat.and_two_pow_sub_one_eq_mod _ _
  rw [BitVec.toInt_eq_toNat_of_lt (by omega), h]
  omega
/-- the next number drawn, the same in both -/
theorem dr_eq {x : Int} (h0 : 0 ≤ x) (h1 : x ≤ 65535) : ∃ y, pAnd (pw (pw (25173 * x) + 13849)) 65535 = y ∧ pRem (pw (pw (25173 * x) + 13849)) 65536 = y ∧ 0 ≤ y ∧ y ≤ 65535 := by
  have e1 : pw (25173 * x) = 25173 * x := pw_id (by omega) (by omega)
  have e2 : pw (25173 * x + 13849) = 25173 * x + 13849 := pw_id (by omega) (by omega)
  refine ⟨(25173 * x + 13849) % 65536, ?_, ?_, by omega, by omega⟩
  · rw [e1, e2]
    exact pAnd_16 (by omega) (by omega)
  · rw [e1, e2, pRem_eq (by omega) (by omega) (by decide) (by decide), Int.tmod_eq_emod_of_nonneg (by omega)]
def PS (k x : Nat) : Prop := k = 22 ∨ k = 23 ∨ (k = 3 ∧ x = 11)
def QS (k _x : Nat) : Prop := k = 108 ∨ k = 109
section SO
variable {m : Nat} {rec : Nat → O8} {D : Nat → Prop} {σ τ σ' τ' : pS}
theorem PS_N (k x : Nat) (h : PS k x) : PN k x := by unfold PS at h; unfold PN; omega
theorem QS_N (k x : Nat) (h : QS k x) : QN k x := by unfold QS at h; unfold QN; omega
theorem RN.sc (H : RN m rec D σ τ) (a1 : FR PS σ σ') (a2 : FR QS τ τ') : RN m rec D σ' τ' := by
  refine ⟨H.g.fr (a1.mono PS_N) (a2.mono QS_N), H.r.sno (a1.mono (fun k x h => by unfold PS at h; unfold P_sno; omega)) (a2.mono (fun k x h => by unfold QS at h; unfold Q_sno; omega)), fun j hj q => ?_, H.v.fr (fun k x hk => a1.get (by unfold PS; omega)), ?_⟩
  · rw [a1.get (k := 41) (by unfold PS; omega)] at q
    rw [a1.get (k := 39) (by unfold PS; omega)]
    exact H.t j hj q
  · unfold CW
    rw [a1.get (k := 33) (by unfold PS; omega), a2.get (k := 84) (by unfold QS; omega)]
    exact H.w
theorem RN.x (H : RN m rec D σ τ) (a1 : FR P_sx σ σ') (a2 : FR Q_sx τ τ') (g : σ' 28 5 = τ' 84 0 ∧ 0 ≤ σ' 28 5 ∧ σ' 28 5 ≤ 65535) : RN m rec D σ' τ' := by
  refine ⟨H.g.fr (a1.mono (fun k x h => by unfold P_sx at h; unfold PN; omega)) (a2.mono (fun k x h => by unfold Q_sx at h; unfold QN; omega)), H.r.sx a1 a2 g, fun j hj q => ?_, H.v.fr (fun k x hk => a1.get (by unfold P_sx; omega)), ?_⟩
  · rw [a1.get (k := 41) (by unfold P_sx; omega)] at q
    rw [a1.get (k := 39) (by unfold P_sx; omega)]
    exact H.t j hj q
  · unfold CW
    rw [a1.get (k := 33) (by unfold P_sx; omega), a2.get (k := 84) (by unfold Q_sx; omega)]
    exact H.w
theorem RN.cd (H : RN m rec D σ τ) (a1 : FR P_scd σ σ') (a2 : FR Q_scd τ τ') (g : σ' 33 5 = τ' 84 68) : RN m rec D σ' τ' := by
  refine ⟨H.g.fr (a1.mono (fun k x h => by unfold P_scd at h; unfold PN; omega)) (a2.mono (fun k x h => by unfold Q_scd at h; unfold QN; omega)), H.r.scd a1 a2 g, fun j hj q => ?_, H.v.fr (fun k x hk => a1.get (by unfold P_scd; omega)), ?_⟩
  · rw [a1.get (k := 41) (by unfold P_scd; omega)] at q
    rw [a1.get (k := 39) (by unfold P_scd; omega)]
    exact H.t j hj q
  · unfold CW
    rw [a1.get (k := 33) (x := 1) (by unfold P_scd; omega), a2.get (k := 84) (x := 64) (by unfold Q_scd; omega)]
    exact H.w
theorem RN.off {i : Nat} (H : RN m rec D σ τ) (hi : i < m) (h0 : σ 39 i = 0) (a1 : FR (P_off i) σ σ') (a2 : FR (Q_off i) τ τ') (g1 : σ' 39 i = 1) (g2 : τ' 118 i = 1) (g3 : σ' 40 i = τ' 119 i) (s1 : sdn σ (σ 12 i)) (s2 : sdn σ (σ 13 i)) : RN m rec D σ' τ' := by
  have hm := H.g.le
  obtain ⟨so1, so2⟩ := H.g.so i hi
  have r1 := src_r (σ 8) i (σ 9 i)
  have r2 := src_r (σ 8) i (σ 10 i)
  refine ⟨H.g.fr (a1.mono (fun k x h => by unfold P_off at h; unfold PN; omega)) (a2.mono (fun k x h => by unfold Q_off at h; unfold QN; omega)), H.r.soff a1 a2 g1 g2 g3 ⟨fun q => ?_, fun q => ?_⟩, fun j hj q => ?_, H.v.fr (fun k x hk => a1.get (by unfold P_off; omega)), ?_⟩
  · rcases s1 with z | z
    · omega
    · exact H.r.dn _ (by omega) z
  · rcases s2 with z | z
    · omega
    · exact H.r.dn _ (by omega) z
  · rw [a1.get (k := 41) (by unfold P_off; omega)] at q
    have hji : j ≠ i := fun e => by
      have := H.t j hj q
      rw [e, h0] at this
      exact absurd this (by decide)
    rw [a1.get (k := 39) (by unfold P_off; omega)]
    exact H.t j hj q
  · unfold CW
    rw [a1.get (k := 33) (by unfold P_off; omega), a2.get (k := 84) (by unfold Q_off; omega)]
    exact H.w
theorem fk (c : Nat) {σ : pS} {x : Nat} {v : Int} : FR (fun k _ => k = c) σ (pU σ c x v) := FR.u rfl
/-- what the law is told: the same in both -/
theorem tl_ls (H : RN m rec D σ τ) {i : Nat} (hi : i < m) {c w : Int} (hc : σ 3 11 = c) : ∃ σ' τ', f_Mach_tellLaw_3 (i : Int) w σ = some (0, σ') ∧ f_M_feels_84 (i : Int) c w τ = some (0, τ') ∧ FCs σ' τ' ∧ FR (fun k _ => k = 22) σ σ' ∧ FR (fun k _ => k = 109) τ τ' := by
  have hm := H.g.le
  have g : (0 : Int) ≤ (i : Int) ∧ (i : Int) < 20 := by omega
  have k1 := (H.g.kd hi).1
  have k2 := (H.r.se i hi).1
  have k3 := H.r.rp i hi
  have k4 := H.r.ru
  have cX : f_Mach_tellLaw_3 (i : Int) w σ = some (0, pU (pU (pU (pU (pU (pU (pU σ 22 0 (i : Int)) 22 1 (σ 5 i)) 22 2 (pRem c 100)) 22 3 (if σ 31 i = -1 then 16 else σ 31 i)) 22 4 (σ 35 i)) 22 5 (pRem (σ 24 4) 100)) 22 6 w) := by
    unfold f_Mach_tellLaw_3 f_Mach_tellLaw_3_p27 f_Law_tell_16
    simp only [if_pos g, Int.toNat_natCast, Option.bind_some, hc]
    by_cases z : σ 31 i = -1
    · rw [if_pos z, if_pos z]
    · rw [if_neg z, if_neg z]
  have mX : f_M_feels_84 (i : Int) c w τ = some (0, pU (pU (pU (pU (pU (pU (pU τ 109 0 (i : Int)) 109 1 (σ 5 i)) 109 2 (pRem c 100)) 109 3 (if σ 31 i = -1 then 16 else σ 31 i)) 109 4 (σ 35 i)) 109 5 (pRem (σ 24 4) 100)) 109 6 w) := by
    have e123 : (pU (pU (pU τ 109 0 (i : Int)) 109 1 (σ 5 i)) 109 2 (pRem c 100)) 123 i = σ 35 i := by
      rw [pU_c _ _ _ _ (by decide), pU_c _ _ _ _ (by decide), pU_c _ _ _ _ (by decide)]
      exact k3.symm
    have e84 : (pU (pU (pU τ 109 0 (i : Int)) 109 1 (σ 5 i)) 109 2 (pRem c 100)) 84 1 = σ 24 4 := by
      rw [pU_c _ _ _ _ (by decide), pU_c _ _ _ _ (by decide), pU_c _ _ _ _ (by decide)]
      exact k4.symm
    unfold f_M_feels_84 f_M_feels_84_p55
    simp only [if_pos g, Int.toNat_natCast, k1, ← k2, e123, e84]
    by_cases z : σ 31 i = -1
    · rw [if_pos z, if_pos z]
      rfl
    · rw [if_neg z, if_neg z]
      rfl
  refine ⟨_, _, cX, mX, fun j hj => ?_, ?_, ?_⟩
  · match j, hj with
    | 0, _ => rfl
    | 1, _ => rfl
    | 2, _ => rfl
    | 3, _ => rfl
    | 4, _ => rfl
    | 5, _ => rfl
    | 6, _ => rfl
  · exact ((((((fk 22).tr (fk 22)).tr (fk 22)).tr (fk 22)).tr (fk 22)).tr (fk 22)).tr (fk 22)
  · exact ((((((fk 109).tr (fk 109)).tr (fk 109)).tr (fk 109)).tr (fk 109)).tr (fk 109)).tr (fk 109)
end SO
