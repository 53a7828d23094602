def P_fin (i k x : Nat) : Prop := ((k = 39 ∨ k = 34 ∨ k = 36 ∨ k = 37) ∧ x = i) ∨ (k = 38 ∧ 4 * i ≤ x ∧ x < 4 * i + 4)
def Q_fin (i k x : Nat) : Prop := ((k = 118 ∨ k = 122 ∨ k = 120 ∨ k = 121) ∧ x = i) ∨ (k = 124 ∧ 4 * i ≤ x ∧ x < 4 * i + 4)
theorem RM.sfin {m : Nat} {D : Nat → Prop} {σ τ σ' τ' : pS} {i : Nat} (h : RM m D σ τ) (a1 : FR (P_fin i) σ σ') (a2 : FR (Q_fin i) τ τ') (gz : ∀ j, j < m → 2 ≤ σ 5 j → σ 7 j ≤ 4) (g0 : σ 41 i ≠ 1) (g1 : σ' 39 i = 2) (g2 : τ' 118 i = 2) (g3 : σ' 36 i = τ' 120 i ∧ σ' 34 i = τ' 122 i ∧ (2 ≤ σ' 5 i → σ' 37 i = τ' 121 i) ∧ (σ' 5 i = 2 → ∀ e : Nat, (e : Int) < σ' 7 i → σ' 38 (4 * i + e) = τ' 124 (4 * i + e))) (g4 : (0 ≤ σ 12 i → D (σ 12 i).toNat) ∧ (0 ≤ σ 13 i → D (σ 13 i).toNat)) : RM m (fun k => D k ∨ k = i) σ' τ' := ⟨fun j hj => by
    by_cases hji : j = i
    · rw [hji, g1, g2]; exact ⟨rfl, by decide, by decide⟩
    · rw [a1.get (k := 39) (x := j) (by unfold P_fin; omega), a2.get (k := 118) (x := j) (by unfold Q_fin; omega)]; exact h.st j hj,
  fun j hj q => by
    by_cases hji : j = i
    · rw [hji, g1] at q; exact absurd q (by decide)
    · rw [a1.get (k := 39) (x := j) (by unfold P_fin; omega)] at q; rw [a1.get (k := 40) (x := j) (by unfold P_fin; omega), a2.get (k := 119) (x := j) (by unfold Q_fin; omega)]; exact h.ti j hj q,
  fun j hj => by rw [a1.get (k := 41) (x := j) (by unfold P_fin; omega), a2.get (k := 126) (x := j) (by unfold Q_fin; omega)]; exact h.rt j hj,
  fun j hj q => by
    rw [a1.get (k := 41) (x := j) (by unfold P_fin; omega)] at q
    have hji : j ≠ i := fun e => by rw [e] at q; exact g0 q
    have z := h.re j hj q
    rw [a1.get (k := 5) (x := j) (by unfold P_fin; omega), a1.get (k := 37) (x := j) (by unfold P_fin; omega), a1.get (k := 7) (x := j) (by unfold P_fin; omega), a2.get (k := 132) (x := j) (by unfold Q_fin; omega)]
    exact ⟨z.1, z.2.1, fun e he => by rw [a1.get (k := 42) (x := 4 * j + e) (by unfold P_fin; omega), a2.get (k := 125) (x := 4 * j + e) (by unfold Q_fin; omega)]; exact z.2.2 e he⟩,
  fun j hj q => by
    by_cases hji : j = i
    · rw [hji]; exact g3
    · have q : D j := q.elim (fun q => q) (fun q => absurd q hji)
      have z := h.va j hj q
      rw [a1.get (k := 36) (x := j) (by unfold P_fin; omega), a1.get (k := 34) (x := j) (by unfold P_fin; omega), a1.get (k := 5) (x := j) (by unfold P_fin; omega), a1.get (k := 37) (x := j) (by unfold P_fin; omega), a1.get (k := 7) (x := j) (by unfold P_fin; omega), a2.get (k := 120) (x := j) (by unfold Q_fin; omega), a2.get (k := 122) (x := j) (by unfold Q_fin; omega), a2.get (k := 121) (x := j) (by unfold Q_fin; omega)]
      exact ⟨z.1, z.2.1, z.2.2.1, fun k e he => by
        have h4 : (e : Int) < 4 := Int.lt_of_lt_of_le he (gz j hj (by omega))
        rw [a1.get (k := 38) (x := 4 * j + e) (by unfold P_fin; omega), a2.get (k := 124) (x := 4 * j + e) (by unfold Q_fin; omega)]; exact z.2.2.2 k e he⟩,
  fun j hj q => by
    by_cases hji : j = i
    · exact Or.inr hji
    · rw [a1.get (k := 39) (x := j) (by unfold P_fin; omega)] at q; exact Or.inl (h.dn j hj q),
  fun j hj q => by
    rw [a1.get (k := 12) (x := j) (by unfold P_fin; omega), a1.get (k := 13) (x := j) (by unfold P_fin; omega)]
    by_cases hji : j = i
    · rw [hji]; exact ⟨fun z => Or.inl (g4.1 z), fun z => Or.inl (g4.2 z)⟩
    · rw [a1.get (k := 39) (x := j) (by unfold P_fin; omega)] at q; have z := h.so j hj q; exact ⟨fun y => Or.inl (z.1 y), fun y => Or.inl (z.2 y)⟩,
  fun j hj => by rw [a1.get (k := 35) (x := j) (by unfold P_fin; omega), a2.get (k := 123) (x := j) (by unfold Q_fin; omega)]; exact h.rp j hj,
  fun j hj => by rw [a1.get (k := 30) (x := j) (by unfold P_fin; omega), a2.get (k := 128) (x := j) (by unfold Q_fin; omega)]; exact h.me j hj,
  fun j hj => by rw [a1.get (k := 26) (x := j) (by unfold P_fin; omega), a2.get (k := 127) (x := j) (by unfold Q_fin; omega)]; exact h.m0 j hj,
  fun j hj => by rw [a1.get (k := 31) (x := j) (by unfold P_fin; omega), a2.get (k := 87) (x := j) (by unfold Q_fin; omega)]; exact h.se j hj,
  by rw [a1.get (k := 28) (x := 3) (by unfold P_fin; omega), a2.get (k := 84) (x := 3) (by unfold Q_fin; omega)]; exact h.ns,
  by rw [a1.get (k := 28) (x := 5) (by unfold P_fin; omega), a2.get (k := 84) (x := 0) (by unfold Q_fin; omega)]; exact h.x,
  by rw [a1.get (k := 33) (x := 2) (by unfold P_fin; omega), a2.get (k := 84) (x := 65) (by unfold Q_fin; omega)]; exact h.cr,
  by rw [a1.get (k := 33) (x := 3) (by unfold P_fin; omega), a2.get (k := 84) (x := 66) (by unfold Q_fin; omega)]; exact h.ca,
  by rw [a1.get (k := 33) (x := 4) (by unfold P_fin; omega), a2.get (k := 84) (x := 67) (by unfold Q_fin; omega)]; exact h.cu,
  by rw [a1.get (k := 33) (x := 5) (by unfold P_fin; omega), a2.get (k := 84) (x := 68) (by unfold Q_fin; omega)]; exact h.cd,
  by rw [a1.get (k := 24) (x := 4) (by unfold P_fin; omega), a2.get (k := 84) (x := 1) (by unfold Q_fin; omega)]; exact h.ru,
  fun j hj => by rw [a1.get (k := 25) (x := j) (by unfold P_fin; omega), a2.get (k := 85) (x := j) (by unfold Q_fin; omega)]; exact h.rg j hj,
  fun j hj h20 => by rw [a1.get (k := 31) (x := j) (by unfold P_fin; omega)]; exact h.sh j hj h20⟩
def vr (σ : pS) (s r : Int) : Int := if 0 ≤ s then σ 36 s.toNat else if 0 ≤ r ∧ r < 8 then σ 25 r.toNat else 0
theorem c_vr {σ : pS} {s r : Int} (hs : s < 20) : f_Mach_valueRead_3 s r σ = some (vr σ s r, σ) := by
  unfold f_Mach_valueRead_3 vr f_Mach_valueRead_3_p20
  by_cases h : s < 0
  · rw [if_pos h, if_neg (by omega), x_isCell, Option.bind_some]
    by_cases hr : 0 ≤ r ∧ r < 8
    · simp only [if_pos hr]
      rw [if_neg (by decide)]
    · simp only [if_neg hr]
      rw [if_pos trivial]
  · rw [if_neg h, if_neg (by omega), if_pos (by omega), if_pos (by omega)]
section FI
variable {m : Nat} {rec : Nat → O8} {D : Nat → Prop} {σ τ : pS}
/-- a register as an op reads it -/
theorem m_rb (hG : PG m rec σ τ) (h : RM m D σ τ) {i : Nat} (hi : i ≤ m) {r : Int} (hr : 0 ≤ r ∧ r < 8) {τ1 : pS} (hMR : ∀ j, j < m → MRp τ1 j (rec j)) (e85 : ∀ x, τ1 85 x = τ 85 x) (e120 : ∀ x, x < i → τ1 120 x = τ 120 x) (hD : 0 ≤ src (σ 8) i r → D (src (σ 8) i r).toNat) : f_M_readBy_84 (i : Int) r τ1 = some (vr σ (src (σ 8) i r) r, τ1) := by
  have hm := hG.le
  have gr := gv_r (σ 8) r i
  have es : src (σ 8) i r = gv (σ 8) i r := by
    unfold src
    rw [if_pos hr]
  unfold f_M_readBy_84
  rw [m_giv hm (fun j hj => ⟨(hG.op j hj).1, hMR j hj, (hG.op j hj).2.2⟩) hr.1 hi, Option.bind_some]
  dsimp only
  rw [es] at hD
  rw [es]
  unfold vr
  by_cases z : gv (σ 8) i r = -1
  · rw [if_pos z, if_pos hr, if_neg (by omega), if_pos hr, e85, ← h.rg r.toNat (by omega)]
  · rw [if_neg z, if_pos (by omega), if_pos (by omega), e120 _ (by omega), ← (h.va (gv (σ 8) i r).toNat (by omega) (hD (by omega))).1]
theorem ko_0 {c : Int} (h : ko c = 0) : c = 35 := by
  unfold ko at h
  (repeat' split at h) <;> omega
theorem ko_1 {c : Int} (h : ko c = 1) : c = 38 ∨ c = 42 ∨ c = 43 ∨ c = 45 ∨ c = 62 ∨ c = 94 := by
  unfold ko at h
  (repeat' split at h) <;> omega
theorem c_rk0 {i : Nat} (hi : i < 20) (a b : Int) {σ1 : pS} (h : σ1 6 i = 35) : f_Prog_reckoned_4 (i : Int) a b σ1 = some (σ1 11 i, σ1) := by
  unfold f_Prog_reckoned_4
  have g : (0 : Int) ≤ (i : Int) ∧ (i : Int) < 20 := by omega
  simp only [if_pos g, Int.toNat_natCast, h]
  rfl
theorem c_rk1 {i : Nat} (hi : i < 20) (a b : Int) {σ1 τ1 : pS} (h : σ1 6 i = 38 ∨ σ1 6 i = 42 ∨ σ1 6 i = 43 ∨ σ1 6 i = 45 ∨ σ1 6 i = 62 ∨ σ1 6 i = 94) : ∃ v, f_Prog_reckoned_4 (i : Int) a b σ1 = some (v, σ1) ∧ f_M_reckoned (σ1 6 i) a b τ1 = some (v, τ1) := by
  have g : (0 : Int) ≤ (i : Int) ∧ (i : Int) < 20 := by omega
  unfold f_Prog_reckoned_4 f_M_reckoned
  simp only [if_pos g, Int.toNat_natCast]
  rcases h with h | h | h | h | h | h
  · rw [h]; exact ⟨_, rfl, rfl⟩
  · rw [h]; exact ⟨_, rfl, rfl⟩
  · rw [h]; exact ⟨_, rfl, rfl⟩
  · rw [h]; exact ⟨_, rfl, rfl⟩
  · rw [h]
    by_cases z : a ≤ b
    · simp only [if_pos z]; exact ⟨0, rfl, rfl⟩
    · simp only [if_neg z]; exact ⟨1, rfl, rfl⟩
  · rw [h]; exact ⟨_, rfl, rfl⟩
theorem c_cut {i : Nat} (hi : i < 20) (a : Int) {σ1 τ1 : pS} (h : σ1 7 i = 1 ∨ σ1 7 i = 2 ∨ σ1 7 i = 4) : ∃ v, f_Prog_storedOf_4 (i : Int) a σ1 = some (v, σ1) ∧ f_M_cut a (σ1 7 i) τ1 = some (v, τ1) := by
  have g : (0 : Int) ≤ (i : Int) ∧ (i : Int) < 20 := by omega
  unfold f_Prog_storedOf_4 f_M_cut
  simp only [if_pos g, Int.toNat_natCast]
  rcases h with h | h | h
  · rw [h]
    have : pw (pShl 1 (pw (8 * 1)) - 1) = 255 := by decide
    rw [this]
    exact ⟨_, rfl, rfl⟩
  · rw [h]
    have : pw (pShl 1 (pw (8 * 2)) - 1) = 65535 := by decide
    rw [this]
    exact ⟨_, rfl, rfl⟩
  · rw [h]
    exact ⟨_, rfl, rfl⟩
/-- all that is kept up in a run -/
def RN (m : Nat) (rec : Nat → O8) (D : Nat → Prop) (σ τ : pS) : Prop := (PG m rec σ τ) ∧
  (RM m D σ τ) ∧
  (T2 m σ) ∧
  (GV m D σ) ∧
  (CW σ τ)
theorem RN.g {m : Nat} {rec : Nat → O8} {D : Nat → Prop} {σ τ : pS} (h : RN m rec D σ τ) : PG m rec σ τ := h.1
theorem RN.r {m : Nat} {rec : Nat → O8} {D : Nat → Prop} {σ τ : pS} (h : RN m rec D σ τ) : RM m D σ τ := h.2.1
theorem RN.t {m : Nat} {rec : Nat → O8} {D : Nat → Prop} {σ τ : pS} (h : RN m rec D σ τ) : T2 m σ := h.2.2.1
theorem RN.v {m : Nat} {rec : Nat → O8} {D : Nat → Prop} {σ τ : pS} (h : RN m rec D σ τ) : GV m D σ := h.2.2.2.1
theorem RN.w {m : Nat} {rec : Nat → O8} {D : Nat → Prop} {σ τ : pS} (h : RN m rec D σ τ) : CW σ τ := h.2.2.2.2
/-- an op comes done: the same in both -/
theorem fi_ls (H : RN m rec D σ τ) {i : Nat} (hi : i < m) (h1 : σ 39 i = 1) (h2 : σ 40 i = σ 3 11) (n : Nat) : ∃ σ' τ', f_Mach_finishOps_3_p2 (n + 1) (i : Int) σ = f_Mach_finishOps_3_p2 n ((i + 1 : Nat) : Int) σ' ∧ f_M_comesDone_84 (i : Int) (σ 3 11) τ = some (0, τ') ∧ RN m rec (fun k => D k ∨ k = i) σ' τ' ∧ FR PN σ σ' ∧ FR QN τ τ' ∧ σ' 3 11 = σ 3 11 := by
  obtain ⟨hG, h, hT, hV, hC⟩ := H
  have hm := hG.le
  have i20 : i < 20 := by omega
  have g : (0 : Int) ≤ (i : Int) ∧ (i : Int) < 20 := by omega
  have kd := hG.kd hi
  obtain ⟨cr, mr, vv⟩ := hG.op i hi
  obtain ⟨so1, so2⟩ := hG.so i hi
  have hso := h.so i hi (by omega)
  have s1 := src_r (σ 8) i (σ 9 i)
  have s2 := src_r (σ 8) i (σ 10 i)
  have hrt : σ 41 i ≠ 1 := fun z => by have := hT i hi z; omega
  have gz : ∀ j, j < m → 2 ≤ σ 5 j → σ 7 j ≤ 4 := fun j hj hk => by have := (hG.sz hj hk).2; omega
  generalize hσ1 : pU (pU σ 39 i 2) 34 i (σ 3 11) = σ1
  generalize hτ1 : pU (pU τ 118 i 2) 122 i (σ 3 11) = τ1
  have a1 : FR (P_fin i) σ σ1 := by
    rw [← hσ1]
    exact (FR.u (by unfold P_fin; omega)).tr (FR.u (by unfold P_fin; omega))
  have b1 : FR (Q_fin i) τ τ1 := by
    rw [← hτ1]
    exact (FR.u (by unfold Q_fin; omega)).tr (FR.u (by unfold Q_fin; omega))
  have x1 : ∀ k x, k ≠ 39 → k ≠ 34 → σ1 k x = σ k x := fun k x z1 z2 => by rw [← hσ1, pU_c _ _ _ _ z2, pU_c _ _ _ _ z1]
  have y1 : ∀ k x, k ≠ 118 → k ≠ 122 → τ1 k x = τ k x := fun k x z1 z2 => by rw [← hτ1, pU_c _ _ _ _ z2, pU_c _ _ _ _ z1]
  have x39 : σ1 39 i = 2 := by rw [← hσ1, pU_c _ _ _ _ (by decide), pU_s]
  have x34 : σ1 34 i = σ 3 11 := by rw [← hσ1, pU_s]
  have y118 : τ1 118 i = 2 := by rw [← hτ1, pU_c _ _ _ _ (by decide), pU_s]
  have y122 : τ1 122 i = σ 3 11 := by rw [← hτ1, pU_s]
  have v36 : ∀ s r, vr σ1 s r = vr σ s r := fun s r => by
    unfold vr
    rw [x1 36 _ (by decide) (by decide), x1 25 _ (by decide) (by decide)]
  have eV1 : f_Mach_valueRead_3 (σ 12 i) (σ 9 i) σ1 = some (vr σ (σ 12 i) (σ 9 i), σ1) := by rw [c_vr (by omega), v36]
  have eV2 : f_Mach_valueRead_3 (σ1 13 i) (σ1 10 i) σ1 = some (vr σ (σ 13 i) (σ 10 i), σ1) := by rw [x1 13 _ (by decide) (by decide), x1 10 _ (by decide) (by decide), c_vr (by omega), v36]
  have hMR1 : ∀ j, j < m → MRp τ1 j (rec j) := fun j hj => by
    have z := (hG.op j hj).2.1
    unfold MRp at *
    rw [y1 88 _ (by decide) (by decide), y1 89 _ (by decide) (by decide), y1 90 _ (by decide) (by decide), y1 91 _ (by decide) (by decide), y1 92 _ (by decide) (by decide), y1 93 _ (by decide) (by decide), y1 94 _ (by decide) (by decide), y1 95 _ (by decide) (by decide)]
    exact z
  have PNf : ∀ k x, P_fin i k x → PN k x := fun k x z => by unfold P_fin at z; unfold PN; omega
  have QNf : ∀ k x, Q_fin i k x → QN k x := fun k x z => by unfold Q_fin at z; unfold QN; omega
  -- what holds once the values are there
  have done : ∀ σ2 τ2 : pS, FR (P_fin i) σ1 σ2 → FR (Q_fin i) τ1 τ2 → σ2 39 i = 2 → σ2 34 i = σ 3 11 → τ2 118 i = 2 → τ2 122 i = σ 3 11 → σ2 36 i = τ2 120 i → (2 ≤ σ 5 i → σ2 37 i = τ2 121 i) → (σ 5 i = 2 → ∀ e : Nat, (e : Int) < σ 7 i → σ2 38 (4 * i + e) = τ2 124 (4 * i + e) ∧ (σ2 38 (4 * i + e) = -1 ∨ ∃ j : Nat, σ2 38 (4 * i + e) = (j : Int) ∧ j < i ∧ σ 5 j = 3)) → RN m rec (fun k => D k ∨ k = i) σ2 τ2 := fun σ2 τ2 c1 c2 c3 c4 c5 c6 c7 c8 c9 => by
    have f1 := a1.tr c1
    have f2 := b1.tr c2
    have e5 : ∀ x, σ2 5 x = σ 5 x := fun x => f1.get (by unfold P_fin; omega)
    have e7 : ∀ x, σ2 7 x = σ 7 x := fun x => f1.get (by unfold P_fin; omega)
    refine ⟨hG.fr (f1.mono PNf) (f2.mono QNf), h.sfin f1 f2 gz hrt c3 c5 ⟨c7, by rw [c4, c6], by rw [e5]; exact c8, fun q e he => ?_⟩ hso, fun j hj z => ?_, fun k hk hD z e he => ?_, ?_⟩
    · rw [e5] at q
      rw [e7] at he
      exact (c9 q e he).1
    · rw [f1.get (k := 41) (by unfold P_fin; omega)] at z
      have hji : j ≠ i := fun e => hrt (e ▸ z)
      rw [f1.get (k := 39) (by unfold P_fin; omega)]
      exact hT j hj z
    · rw [e5] at z
      rw [e7] at he
      by_cases hki : k = i
      · rw [hki] at z he ⊢
        rcases (c9 z e he).2 with w | ⟨j, w1, w2, w3⟩
        · exact Or.inl w
        · rw [w1, e5, Int.toNat_natCast]
          exact Or.inr ⟨by omega, by omega, w3⟩
      · have h4 := gz k hk (by omega)
        have hD : D k := hD.elim (fun q => q) (fun q => absurd q hki)
        rw [f1.get (k := 38) (x := 4 * k + e) (by unfold P_fin; omega), e5]
        exact hV k hk hD z e he
    · unfold CW
      rw [f1.get (k := 33) (by unfold P_fin; omega), f2.get (k := 84) (by unfold Q_fin; omega)]
      exact hC
  have eX : f_Mach_finishOps_3_p2 (n + 1) (i : Int) σ = (if σ 5 i = 2 then ((f_Prog_placeBy_4 (i : Int) (vr σ (σ 13 i) (σ 10 i)) σ1).bind fun q25 => ((f_Mach_takeBytes_3 (i : Int) (pU q25.2 37 i q25.1)).bind fun q27 => (f_Mach_finishOps_3_p2 n ((i + 1 : Nat) : Int) q27.2))) else (if σ 5 i = 3 then ((f_Prog_placeBy_4 (i : Int) (vr σ (σ 13 i) (σ 10 i)) σ1).bind fun q20 => ((f_Prog_storedOf_4 (i : Int) (vr σ (σ 12 i) (σ 9 i)) (pU q20.2 37 i q20.1)).bind fun q22 => ((f_Mach_lookBack_3 (i : Int) (pU q22.2 36 i q22.1)).bind fun q24 => (f_Mach_finishOps_3_p2 n ((i + 1 : Nat) : Int) q24.2)))) else ((f_Prog_reckoned_4 (i : Int) (vr σ (σ 12 i) (σ 9 i)) (vr σ (σ 13 i) (σ 10 i)) σ1).bind fun q18 => (f_Mach_finishOps_3_p2 n ((i + 1 : Nat) : Int) (pU q18.2 36 i q18.1))))) := by
    show (if σ 4 11 ≤ (i : Int) then _ else _) = _
    rw [hG.cm, if_neg (by omega)]
    simp only [if_pos g, Int.toNat_natCast, if_pos h1, if_pos h2, hσ1, pw_s i20 (show 20 ≤ 100000 by decide), eV1, Option.bind_some, eV2, x1 5 i (by decide) (by decide)]
  have eM : f_M_comesDone_84 (i : Int) (σ 3 11) τ = (if σ 5 i = 0 then some (0, pU τ1 120 i (τ 95 i)) else (if σ 5 i = 1 then ((f_M_readBy_84 (i : Int) (τ 91 i) τ1).bind fun q10 => ((f_M_readBy_84 (i : Int) (q10.2 92 i) q10.2).bind fun q12 => ((f_M_reckoned (τ 89 i) q10.1 q12.1 q12.2).bind fun q13 => some (0, pU q13.2 120 i q13.1)))) else (if σ 5 i = 2 then ((f_M_placeBy_84 (i : Int) τ1).bind fun q16 => ((f_M_loads_84 (i : Int) (pU q16.2 121 i q16.1)).bind fun q18 => some (0, q18.2))) else ((f_M_placeBy_84 (i : Int) τ1).bind fun q19 => ((f_M_readBy_84 (i : Int) (q19.2 90 i) (pU q19.2 121 i q19.1)).bind fun q22 => ((f_M_cut q22.1 (q22.2 93 i) q22.2).bind fun q24 => ((f_M_looksBack_84 (i : Int) (pU q24.2 120 i q24.1)).bind fun q26 => some (0, q26.2)))))))) := by
    unfold f_M_comesDone_84
    simp only [if_pos g, Int.toNat_natCast, hτ1, kd.1]
  obtain ⟨r5, r6, r7, r89, r10, r11⟩ := cr
  obtain ⟨t88, t89, t90, t1, t2, t95⟩ := mr
  obtain ⟨w1, w2, w3, w4, w5, w6, w7⟩ := vv
  have rb : ∀ (r : Int) (τ9 : pS), 0 ≤ r ∧ r < 8 → (∀ j, j < m → MRp τ9 j (rec j)) → (∀ x, τ9 85 x = τ 85 x) → (∀ x, x < i → τ9 120 x = τ 120 x) → (0 ≤ src (σ 8) i r → D (src (σ 8) i r).toNat) → f_M_readBy_84 (i : Int) r τ9 = some (vr σ (src (σ 8) i r) r, τ9) := fun r τ9 q1 q2 q3 q4 q5 => m_rb hG h (Nat.le_of_lt hi) q1 q2 q3 q4 q5
  have d1 : 0 ≤ src (σ 8) i (σ 9 i) → D (src (σ 8) i (σ 9 i)).toNat := by rw [← so1]; exact hso.1
  have d2 : 0 ≤ src (σ 8) i (σ 10 i) → D (src (σ 8) i (σ 10 i)).toNat := by rw [← so2]; exact hso.2
  rw [eX, eM]
  by_cases k0 : σ 5 i = 0
  · have e6 : σ1 6 i = 35 := by
      rw [x1 6 i (by decide) (by decide), r6]
      exact ko_0 (by rw [← w7, ← r5]; exact k0)
    rw [if_neg (by omega), if_neg (by omega), c_rk0 i20 _ _ e6, Option.bind_some, if_pos k0, t95 (by omega), x1 11 i (by decide) (by decide), r11]
    refine ⟨_, _, rfl, rfl, done _ _ (FR.u (by unfold P_fin; omega)) (FR.u (by unfold Q_fin; omega)) ?_ ?_ ?_ ?_ ?_ (fun q => by omega) (fun q => by omega), (a1.tr (FR.u (by unfold P_fin; omega))).mono PNf, (b1.tr (FR.u (by unfold Q_fin; omega))).mono QNf, ?_⟩
    · rw [pU_c _ _ _ _ (by decide)]; exact x39
    · rw [pU_c _ _ _ _ (by decide)]; exact x34
    · rw [pU_c _ _ _ _ (by decide)]; exact y118
    · rw [pU_c _ _ _ _ (by decide)]; exact y122
    · rw [pU_s, pU_s]
    · exact (pU_c _ _ _ _ (by decide)).trans (x1 3 11 (by decide) (by decide))
  by_cases k1 : σ 5 i = 1
  · obtain ⟨t91, t92⟩ := t1 (by omega)
    have r9 : σ 9 i = (rec i).2.2.2.2.1 := by
      rcases r89 with ⟨q, -⟩ | ⟨-, -, q⟩
      · omega
      · exact q
    have r10' : σ 10 i = (rec i).2.2.2.2.2.1 := by
      rcases r10 with ⟨-, q⟩ | ⟨q, -⟩
      · exact q
      · omega
    rcases w3 with ⟨-, v9, v10⟩ | ⟨q, -⟩
    · have e6 := ko_1 (c := σ1 6 i) (by rw [x1 6 i (by decide) (by decide), r6, ← w7, ← r5]; exact k1)
      obtain ⟨v, c1, c2⟩ := c_rk1 i20 (vr σ (σ 12 i) (σ 9 i)) (vr σ (σ 13 i) (σ 10 i)) (τ1 := τ1) e6
      rw [if_neg (by omega), if_neg (by omega), c1, Option.bind_some, if_neg k0, if_pos k1, t91, ← r9, rb (σ 9 i) τ1 (by omega) hMR1 (fun x => y1 85 x (by decide) (by decide)) (fun x _ => y1 120 x (by decide) (by decide)) d1, Option.bind_some]
      dsimp only
      rw [y1 92 i (by decide) (by decide), t92, ← r10', rb (σ 10 i) τ1 (by omega) hMR1 (fun x => y1 85 x (by decide) (by decide)) (fun x _ => y1 120 x (by decide) (by decide)) d2, Option.bind_some]
      dsimp only
      rw [t89, ← r6, ← x1 6 i (by decide) (by decide), ← so1, ← so2, c2, Option.bind_some]
      refine ⟨_, _, rfl, rfl, done _ _ (FR.u (by unfold P_fin; omega)) (FR.u (by unfold Q_fin; omega)) ?_ ?_ ?_ ?_ ?_ (fun q => by omega) (fun q => by omega), (a1.tr (FR.u (by unfold P_fin; omega))).mono PNf, (b1.tr (FR.u (by unfold Q_fin; omega))).mono QNf, ?_⟩
      · rw [pU_c _ _ _ _ (by decide)]; exact x39
      · rw [pU_c _ _ _ _ (by decide)]; exact x34
      · rw [pU_c _ _ _ _ (by decide)]; exact y118
      · rw [pU_c _ _ _ _ (by decide)]; exact y122
      · rw [pU_s, pU_s]
      · exact (pU_c _ _ _ _ (by decide)).trans (x1 3 11 (by decide) (by decide))
    · omega
  have k2 : 2 ≤ σ 5 i := by omega
  obtain ⟨t93, t94⟩ := t2 (by omega)
  have r10' : σ 10 i = (rec i).2.2.2.2.2.2.1 := by
    rcases r10 with ⟨q, -⟩ | ⟨-, q⟩
    · omega
    · exact q
  have vb : -1 ≤ (rec i).2.2.2.2.2.2.1 ∧ (rec i).2.2.2.2.2.2.1 ≤ 7 := by
    rcases w4 with ⟨-, -, q⟩ | ⟨q, -⟩
    · exact q
    · omega
  have pl : ∃ p, f_Prog_placeBy_4 (i : Int) (vr σ (σ 13 i) (σ 10 i)) σ1 = some (p, σ1) ∧ f_M_placeBy_84 (i : Int) τ1 = some (p, τ1) := by
    unfold f_Prog_placeBy_4 f_M_placeBy_84
    simp only [if_pos g, Int.toNat_natCast]
    rw [y1 94 i (by decide) (by decide), y1 95 i (by decide) (by decide), t94, t95 (by omega), ← r10', x1 11 i (by decide) (by decide), r11]
    by_cases hb : σ 10 i = -1
    · have : vr σ (σ 13 i) (σ 10 i) = 0 := by
        rw [so2, hb]
        rfl
      rw [if_pos hb, this]
      exact ⟨_, rfl, rfl⟩
    · rw [if_neg hb, rb (σ 10 i) τ1 (by omega) hMR1 (fun x => y1 85 x (by decide) (by decide)) (fun x _ => y1 120 x (by decide) (by decide)) d2, Option.bind_some]
      dsimp only
      rw [y1 95 i (by decide) (by decide), t95 (by omega), so2]
      exact ⟨_, rfl, rfl⟩
  obtain ⟨p, p1, p2⟩ := pl
  obtain ⟨sz1, sz2⟩ := hG.sz hi k2
  have fx : FR (P_fin i) σ1 (pU σ1 37 i p) := FR.u (by unfold P_fin; omega)
  have fy : FR (Q_fin i) τ1 (pU τ1 121 i p) := FR.u (by unfold Q_fin; omega)
  rw [p1, p2, Option.bind_some, Option.bind_some, Option.bind_some]
  by_cases k3 : σ 5 i = 2
  · rw [if_pos k3, if_neg k0, if_neg k1, if_pos k3]
    dsimp only
    obtain ⟨s, hs, hs4⟩ : ∃ s : Nat, σ 7 i = (s : Int) ∧ s ≤ 4 := ⟨(σ 7 i).toNat, by omega, by omega⟩
    have fy2 : FR (Q_fin i) (pU τ1 121 i p) (pU (pU τ1 121 i p) 120 i 0) := FR.u (by unfold Q_fin; omega)
    have FX := a1.tr fx
    have FY := (b1.tr fy).tr fy2
    have hB : BL i (pU σ1 37 i p) (pU (pU τ1 121 i p) 120 i 0) := fun k hk => by
      have kk := hG.kd (show k < m by omega)
      have sk := h.st k (by omega)
      rw [FX.get (k := 5) (x := k) (by unfold P_fin; omega), FX.get (k := 39) (x := k) (by unfold P_fin; omega), FX.get (k := 7) (x := k) (by unfold P_fin; omega), FX.get (k := 37) (x := k) (by unfold P_fin; omega), FX.get (k := 36) (x := k) (by unfold P_fin; omega), FY.get (k := 88) (x := k) (by unfold Q_fin; omega), FY.get (k := 118) (x := k) (by unfold Q_fin; omega), FY.get (k := 93) (x := k) (by unfold Q_fin; omega), FY.get (k := 121) (x := k) (by unfold Q_fin; omega), FY.get (k := 120) (x := k) (by unfold Q_fin; omega)]
      refine ⟨kk.1, sk.1.symm, fun q => ?_, fun q q2 => ?_⟩
      · have z := hG.sz (show k < m by omega) (by omega)
        exact ⟨z.1, by omega⟩
      · have z := h.va k (by omega) (h.dn k (by omega) q2)
        exact ⟨(z.2.2.1 (by omega)).symm, z.1.symm⟩
    obtain ⟨σ9, τ9, v9, q1, q2, q3, q4, q5, q6⟩ := tb_lp i20 hs4 s 0 4096 4096 (pU σ1 37 i p) (pU (pU τ1 121 i p) 120 i 0) 0 (by omega) (by omega) (by omega) ((FX.get (k := 7) (by unfold P_fin; omega)).trans hs) ((FY.get (k := 93) (by unfold Q_fin; omega)).trans (sz1.trans hs)) (by rw [pU_c _ _ _ _ (by decide), pU_s, pU_s]) hB (fun x hx => by rw [FX.get (k := 26) (by unfold P_fin; omega), FY.get (k := 127) (by unfold Q_fin; omega)]; exact h.m0 x hx) (pU_s _ _ _ _) (fun q hq => absurd hq (Nat.not_lt_zero _))
    have eT : f_Mach_takeBytes_3 (i : Int) (pU σ1 37 i p) = some (0, pU σ9 36 i v9) := q1
    have eL : f_M_loads_84 (i : Int) (pU τ1 121 i p) = some (0, τ9) := by
      unfold f_M_loads_84
      rw [if_pos g, Int.toNat_natCast]
      exact q2
    rw [eT, eL, Option.bind_some, Option.bind_some]
    have ux : FR (P_fin i) (pU σ1 37 i p) (pU σ9 36 i v9) := (q5.mono (fun k x z => by unfold P_tb at z; unfold P_fin; omega)).tr (FR.u (by unfold P_fin; omega))
    have uy : FR (Q_fin i) (pU (pU τ1 121 i p) 120 i 0) τ9 := q6.mono (fun k x z => by unfold Q_tb at z; unfold Q_fin; omega)
    have o39 : σ9 39 i = 2 := by rw [q5.get (k := 39) (by unfold P_tb; omega), pU_c _ _ _ _ (by decide)]; exact x39
    have o34 : σ9 34 i = σ 3 11 := by rw [q5.get (k := 34) (by unfold P_tb; omega), pU_c _ _ _ _ (by decide)]; exact x34
    have o37 : σ9 37 i = p := by rw [q5.get (k := 37) (by unfold P_tb; omega), pU_s]
    have o118 : τ9 118 i = 2 := by rw [q6.get (k := 118) (by unfold Q_tb; omega), pU_c _ _ _ _ (by decide), pU_c _ _ _ _ (by decide)]; exact y118
    have o122 : τ9 122 i = σ 3 11 := by rw [q6.get (k := 122) (by unfold Q_tb; omega), pU_c _ _ _ _ (by decide), pU_c _ _ _ _ (by decide)]; exact y122
    have o121 : τ9 121 i = p := by rw [q6.get (k := 121) (by unfold Q_tb; omega), pU_c _ _ _ _ (by decide), pU_s]
    have o3 : σ9 3 11 = σ 3 11 := by rw [q5.get (k := 3) (by unfold P_tb; omega), pU_c _ _ _ _ (by decide)]; exact x1 3 11 (by decide) (by decide)
    refine ⟨pU σ9 36 i v9, τ9, rfl, rfl, done (pU σ9 36 i v9) τ9 (fx.tr ux) ((fy.tr fy2).tr uy) ?_ ?_ o118 o122 ?_ (fun _ => ?_) (fun _ e he => ?_), (a1.tr (fx.tr ux)).mono PNf, (b1.tr ((fy.tr fy2).tr uy)).mono QNf, ?_⟩
    · rw [pU_c _ _ _ _ (by decide)]; exact o39
    · rw [pU_c _ _ _ _ (by decide)]; exact o34
    · rw [pU_s, q3]
    · rw [pU_c _ _ _ _ (by decide), o37, o121]
    · rw [pU_c _ _ _ _ (by decide)]
      obtain ⟨z1, z2⟩ := q4 e (by rw [hs] at he; omega)
      refine ⟨z1, ?_⟩
      rcases z2 with z | ⟨j, u1, u2, u3⟩
      · exact Or.inl z
      · exact Or.inr ⟨j, u1, u2, by rw [← FX.get (k := 5) (x := j) (by unfold P_fin; omega)]; exact u3⟩
    · rw [pU_c _ _ _ _ (by decide)]; exact o3
  · have k4 : σ 5 i = 3 := by omega
    rw [if_neg k3, if_pos k4, if_neg k0, if_neg k1, if_neg k3]
    dsimp only
    have r9 : σ 9 i = (rec i).2.2.2.1 := by
      rcases r89 with ⟨-, -, q⟩ | ⟨q, -⟩
      · exact q
      · omega
    have e7 : pU σ1 37 i p 7 i = σ 7 i := (pU_c _ _ _ _ (by decide)).trans (x1 7 i (by decide) (by decide))
    obtain ⟨v, c1, c2⟩ := c_cut i20 (vr σ (σ 12 i) (σ 9 i)) (σ1 := pU σ1 37 i p) (τ1 := pU τ1 121 i p) (by rw [e7]; exact sz2)
    have hMR2 : ∀ j, j < m → MRp (pU τ1 121 i p) j (rec j) := fun j hj => by
      have z := hMR1 j hj
      unfold MRp at *
      rw [pU_c _ _ _ _ (by decide), pU_c _ _ _ _ (by decide), pU_c _ _ _ _ (by decide), pU_c _ _ _ _ (by decide), pU_c _ _ _ _ (by decide), pU_c _ _ _ _ (by decide), pU_c _ _ _ _ (by decide), pU_c _ _ _ _ (by decide)]
      exact z
    rw [c1, Option.bind_some, Option.bind_some]
    dsimp only
    rw [y1 90 i (by decide) (by decide), t90, ← r9, rb (σ 9 i) (pU τ1 121 i p) (by omega) hMR2 (fun x => (pU_c _ _ _ _ (by decide)).trans (y1 85 x (by decide) (by decide))) (fun x _ => (pU_c _ _ _ _ (by decide)).trans (y1 120 x (by decide) (by decide))) d1, Option.bind_some]
    dsimp only
    rw [pU_c τ1 _ _ _ (show (93 : Nat) ≠ 121 by decide), y1 93 i (by decide) (by decide), sz1, ← e7, ← so1, c2, Option.bind_some]
    dsimp only
    have ux : FR (P_fin i) σ1 (pU (pU σ1 37 i p) 36 i v) := fx.tr (FR.u (by unfold P_fin; omega))
    have uy : FR (Q_fin i) τ1 (pU (pU τ1 121 i p) 120 i v) := fy.tr (FR.u (by unfold Q_fin; omega))
    have H3 : RN m rec (fun k => D k ∨ k = i) (pU (pU σ1 37 i p) 36 i v) (pU (pU τ1 121 i p) 120 i v) := by
      refine done _ _ ux uy ?_ ?_ ?_ ?_ ?_ (fun _ => ?_) (fun q => absurd q k3)
      · rw [pU_c _ _ _ _ (by decide), pU_c _ _ _ _ (by decide)]; exact x39
      · rw [pU_c _ _ _ _ (by decide), pU_c _ _ _ _ (by decide)]; exact x34
      · rw [pU_c _ _ _ _ (by decide), pU_c _ _ _ _ (by decide)]; exact y118
      · rw [pU_c _ _ _ _ (by decide), pU_c _ _ _ _ (by decide)]; exact y122
      · rw [pU_s, pU_s]
      · rw [pU_c _ _ _ _ (by decide), pU_s, pU_c _ _ _ _ (by decide), pU_s]
    have k5 : pU (pU σ1 37 i p) 36 i v 5 i = 3 := by rw [pU_c _ _ _ _ (by decide), pU_c _ _ _ _ (by decide), x1 5 i (by decide) (by decide)]; exact k4
    obtain ⟨σ9, τ9, q1, q2, q3, q4, q5, q6, q7, q8, q9⟩ := lb_ls H3.g H3.r H3.t H3.v H3.w hi (Or.inr rfl) k5
    rw [q1, q2, Option.bind_some, Option.bind_some]
    refine ⟨σ9, τ9, rfl, rfl, ⟨q3, q4, q5, q6, q7⟩, ((a1.tr ux).mono PNf).tr (q8.mono P_lb_N), ((b1.tr uy).mono QNf).tr (q9.mono Q_lb_N), ?_⟩
    rw [q8.get (k := 3) (by unfold P_lb P_rq P_mw P_un P_ml; omega), pU_c _ _ _ _ (by decide), pU_c _ _ _ _ (by decide), x1 3 11 (by decide) (by decide)]
end FI
section FO
variable {m : Nat} {rec : Nat → O8}
theorem fo_lp {c w : Int} : ∀ (d i fu1 fu2 : Nat) (D : Nat → Prop) (σ τ : pS), i + d = m → d < fu1 → d < fu2 → σ 3 11 = c → RN m rec D σ τ → ∃ D' σ' τ', f_Mach_finishOps_3_p2 fu1 (i : Int) σ = some (0, σ') ∧ f_M_cycleGoes_84_p2 fu2 c w (i : Int) τ = f_M_cycleGoes_84_p47 4096 c w 0 0 τ' ∧ RN m rec D' σ' τ' ∧ FR PN σ σ' ∧ FR QN τ τ' ∧ σ' 3 11 = c
  | 0, i, fu1, fu2, D, σ, τ, hi, h1, h2, hc, H => by
    obtain ⟨n1, rfl⟩ : ∃ n, fu1 = n + 1 := ⟨fu1 - 1, by omega⟩
    obtain ⟨n2, rfl⟩ : ∃ n, fu2 = n + 1 := ⟨fu2 - 1, by omega⟩
    refine ⟨D, σ, τ, ?_, ?_, H, FR.rf _ _, FR.rf _ _, hc⟩
    · show (if σ 4 11 ≤ (i : Int) then _ else _) = _
      rw [H.g.cm, if_pos (by omega)]
    · show (if τ 84 2 ≤ (i : Int) then _ else _) = _
      rw [H.g.mm, if_pos (by omega)]
  | d + 1, i, fu1, fu2, D, σ, τ, hi, h1, h2, hc, H => by
    obtain ⟨n1, rfl⟩ : ∃ n, fu1 = n + 1 := ⟨fu1 - 1, by omega⟩
    obtain ⟨n2, rfl⟩ : ∃ n, fu2 = n + 1 := ⟨fu2 - 1, by omega⟩
    have hm := H.g.le
    have him : i < m := by omega
    have i20 : i < 20 := by omega
    have g : (0 : Int) ≤ (i : Int) ∧ (i : Int) < 20 := by omega
    have st := H.r.st i him
    have eX : f_Mach_finishOps_3_p2 (n1 + 1) (i : Int) σ = f_Mach_finishOps_3_p2 (n1 + 1) (i : Int) σ := rfl
    have sX : ¬ (σ 39 i = 1 ∧ σ 40 i = c) → f_Mach_finishOps_3_p2 (n1 + 1) (i : Int) σ = f_Mach_finishOps_3_p2 n1 ((i + 1 : Nat) : Int) σ := fun hn => by
      show (if σ 4 11 ≤ (i : Int) then _ else _) = _
      rw [H.g.cm, if_neg (by omega), if_pos g, Int.toNat_natCast, pw_s i20 (by decide)]
      by_cases z : σ 39 i = 1
      · rw [if_pos z, if_pos g, hc, if_neg (fun q => hn ⟨z, q⟩)]
      · rw [if_neg z]
    have sM : f_M_cycleGoes_84_p2 (n2 + 1) c w (i : Int) τ = (if σ 39 i = 1 then (if σ 40 i = c then ((f_M_comesDone_84 (i : Int) c τ).bind fun q16 => (f_M_cycleGoes_84_p2 n2 c w ((i + 1 : Nat) : Int) q16.2)) else f_M_cycleGoes_84_p2 n2 c w ((i + 1 : Nat) : Int) τ) else f_M_cycleGoes_84_p2 n2 c w ((i + 1 : Nat) : Int) τ) := by
      show (if τ 84 2 ≤ (i : Int) then _ else _) = _
      rw [H.g.mm, if_neg (by omega), if_pos g, Int.toNat_natCast, pw_s i20 (by decide), ← st.1]
      by_cases z : σ 39 i = 1
      · rw [if_pos z, if_pos z, if_pos g, ← H.r.ti i him z]
      · rw [if_neg z, if_neg z]
    by_cases z : σ 39 i = 1 ∧ σ 40 i = c
    · obtain ⟨σ1, τ1, q1, q2, q3, q4, q5, q6⟩ := fi_ls H him z.1 (by rw [hc]; exact z.2) n1
      rw [hc] at q2
      obtain ⟨D', σ', τ', r1, r2, r3, r4, r5, r6⟩ := fo_lp (c := c) (w := w) d (i + 1) n1 n2 _ σ1 τ1 (by omega) (by omega) (by omega) (q6.trans hc) q3
      refine ⟨D', σ', τ', q1.trans r1, ?_, r3, q4.tr r4, q5.tr r5, r6⟩
      rw [sM, if_pos z.1, if_pos z.2, q2, Option.bind_some]
      exact r2
    · obtain ⟨D', σ', τ', r1, r2, r3, r4, r5, r6⟩ := fo_lp (c := c) (w := w) d (i + 1) n1 n2 D σ τ (by omega) (by omega) (by omega) hc H
      refine ⟨D', σ', τ', (sX z).trans r1, ?_, r3, r4, r5, r6⟩
      rw [sM]
      by_cases z1 : σ 39 i = 1
      · rw [if_pos z1, if_neg (fun q => z ⟨z1, q⟩)]
        exact r2
      · rw [if_neg z1]
        exact r2
variable {D : Nat → Prop} {σ τ : pS}
/-- is the source done (none: yes) -/
def sdn (σ : pS) (s : Int) : Prop := s < 0 ∨ σ 39 s.toNat = 2
theorem c_idn {s : Int} (hs : s < 20) : ∃ b : Int, f_Mach_isDone_3 s σ = some (b, σ) ∧ ((b = 1 ∧ sdn σ s) ∨ (b = 0 ∧ ¬ sdn σ s)) := by
  unfold f_Mach_isDone_3
  by_cases h : s < 0
  · rw [if_pos h]
    exact ⟨1, rfl, Or.inl ⟨rfl, Or.inl h⟩⟩
  · rw [if_neg h, if_neg (by omega), if_pos (by omega)]
    by_cases z : σ 39 s.toNat = 2
    · rw [if_pos z]
      exact ⟨1, rfl, Or.inl ⟨rfl, Or.inr z⟩⟩
    · rw [if_neg z]
      exact ⟨0, rfl, Or.inr ⟨rfl, fun q => q.elim h z⟩⟩
theorem m_asd (H : RN m rec D σ τ) {i : Nat} (hi : i < m) : ∀ (d r fu : Nat), r + d = 8 → d < fu → ∃ b : Int, f_M_areSourcesDone_84_p2 fu (i : Int) (r : Int) τ = some (b, τ) ∧ ((b = 1 ∧ ∀ x : Nat, r ≤ x → x < 8 → (σ 9 i = (x : Int) ∨ σ 10 i = (x : Int)) → sdn σ (gv (σ 8) i (x : Int))) ∨ (b = 0 ∧ ¬ ∀ x : Nat, r ≤ x → x < 8 → (σ 9 i = (x : Int) ∨ σ 10 i = (x : Int)) → sdn σ (gv (σ 8) i (x : Int))))
  | 0, r, fu, hr, hf => by
    obtain ⟨n, rfl⟩ : ∃ n, fu = n + 1 := ⟨fu - 1, by omega⟩
    refine ⟨1, ?_, Or.inl ⟨rfl, fun x h1 h2 => by omega⟩⟩
    show (if (8 : Int) ≤ (r : Int) then _ else _) = _
    rw [if_pos (by omega)]
  | d + 1, r, fu, hr, hf => by
    obtain ⟨n, rfl⟩ : ∃ n, fu = n + 1 := ⟨fu - 1, by omega⟩
    have hm := H.g.le
    obtain ⟨b, q1, q2⟩ := m_asd H hi d (r + 1) n (by omega) (by omega)
    have gr := gv_r (σ 8) (r : Int) i
    have nx : sdn σ (gv (σ 8) i (r : Int)) ∨ ¬ (σ 9 i = (r : Int) ∨ σ 10 i = (r : Int)) → ((b = 1 ∧ ∀ x : Nat, r ≤ x → x < 8 → (σ 9 i = (x : Int) ∨ σ 10 i = (x : Int)) → sdn σ (gv (σ 8) i (x : Int))) ∨ (b = 0 ∧ ¬ ∀ x : Nat, r ≤ x → x < 8 → (σ 9 i = (x : Int) ∨ σ 10 i = (x : Int)) → sdn σ (gv (σ 8) i (x : Int)))) := fun hok => by
      rcases q2 with ⟨b1, b2⟩ | ⟨b1, b2⟩
      · refine Or.inl ⟨b1, fun x h1 h2 h3 => ?_⟩
        by_cases hx : x = r
        · rw [hx] at h3 ⊢
          exact hok.elim (fun z => z) (fun z => absurd h3 z)
        · exact b2 x (by omega) h2 h3
      · exact Or.inr ⟨b1, fun z => b2 (fun x h1 h2 h3 => z x (by omega) h2 h3)⟩
    show ∃ b : Int, (if (8 : Int) ≤ (r : Int) then _ else _) = _ ∧ _
    rw [if_neg (by omega), m_reads hm H.g.op hi (by omega), Option.bind_some]
    unfold f_M_areSourcesDone_84_p27
    rw [pw_s (show r < 8 by omega) (by decide)]
    by_cases h1 : σ 9 i = (r : Int) ∨ σ 10 i = (r : Int)
    · simp only [if_pos h1]
      rw [if_neg (by decide), m_giv hm H.g.op (show (0 : Int) ≤ (r : Int) by omega) (Nat.le_of_lt hi), Option.bind_some]
      dsimp only
      by_cases h2 : gv (σ 8) i (r : Int) = -1
      · rw [if_pos h2]
        exact ⟨b, q1, nx (Or.inl (Or.inl (by omega)))⟩
      · have es := (H.r.st (gv (σ 8) i (r : Int)).toNat (by omega)).1
        rw [if_neg h2, if_pos (by omega)]
        by_cases h3 : σ 39 (gv (σ 8) i (r : Int)).toNat = 2
        · rw [if_pos (show τ 118 (gv (σ 8) i (r : Int)).toNat = 2 by rw [← es]; exact h3)]
          exact ⟨b, q1, nx (Or.inl (Or.inr h3))⟩
        · rw [if_neg (show ¬ τ 118 (gv (σ 8) i (r : Int)).toNat = 2 by rw [← es]; exact h3)]
          refine ⟨0, rfl, Or.inr ⟨rfl, fun z => ?_⟩⟩
          rcases z r (Nat.le_refl _) (by omega) h1 with y | y
          · omega
          · exact h3 y
    · simp only [if_neg h1]
      rw [if_pos trivial, if_pos trivial]
      exact ⟨b, q1, nx (Or.inr h1)⟩
/-- all sources done: the same in both -/
theorem sd_ls (H : RN m rec D σ τ) {i : Nat} (hi : i < m) : ∃ b1 b2 b : Int, f_Mach_isDone_3 (σ 12 i) σ = some (b1, σ) ∧ f_Mach_isDone_3 (σ 13 i) σ = some (b2, σ) ∧ f_M_areSourcesDone_84 (i : Int) τ = some (b, τ) ∧ (b = 0 ↔ (b1 = 0 ∨ b2 = 0)) ∧ (b ≠ 0 → sdn σ (σ 12 i) ∧ sdn σ (σ 13 i)) := by
  have hm := H.g.le
  obtain ⟨so1, so2⟩ := H.g.so i hi
  have s1 := src_r (σ 8) i (σ 9 i)
  have s2 := src_r (σ 8) i (σ 10 i)
  obtain ⟨b1, c1, c2⟩ := c_idn (σ := σ) (s := σ 12 i) (by omega)
  obtain ⟨b2, d1, d2⟩ := c_idn (σ := σ) (s := σ 13 i) (by omega)
  obtain ⟨b, e1, e2⟩ := m_asd H hi 8 0 4096 (by omega) (by omega)
  have hh : (∀ x : Nat, 0 ≤ x → x < 8 → (σ 9 i = (x : Int) ∨ σ 10 i = (x : Int)) → sdn σ (gv (σ 8) i (x : Int))) ↔ (sdn σ (σ 12 i) ∧ sdn σ (σ 13 i)) := by
    rw [so1, so2]
    unfold src
    constructor
    · intro z
      constructor
      · by_cases hr : 0 ≤ σ 9 i ∧ σ 9 i < 8
        · rw [if_pos hr]
          have := z (σ 9 i).toNat (by omega) (by omega) (Or.inl (by omega))
          rw [show (((σ 9 i).toNat : Nat) : Int) = σ 9 i by omega] at this
          exact this
        · rw [if_neg hr]
          exact Or.inl (by decide)
      · by_cases hr : 0 ≤ σ 10 i ∧ σ 10 i < 8
        · rw [if_pos hr]
          have := z (σ 10 i).toNat (by omega) (by omega) (Or.inr (by omega))
          rw [show (((σ 10 i).toNat : Nat) : Int) = σ 10 i by omega] at this
          exact this
        · rw [if_neg hr]
          exact Or.inl (by decide)
    · rintro ⟨z1, z2⟩ x - hx (h | h)
      · rw [h, if_pos (by omega)] at z1
        exact z1
      · rw [h, if_pos (by omega)] at z2
        exact z2
  refine ⟨b1, b2, b, c1, d1, e1, ?_, fun hb => ?_⟩
  · rcases e2 with ⟨x1, x2⟩ | ⟨x1, x2⟩
    · obtain ⟨y1, y2⟩ := hh.mp x2
      rcases c2 with ⟨z1, -⟩ | ⟨-, z1⟩
      · rcases d2 with ⟨z2, -⟩ | ⟨-, z2⟩
        · omega
        · exact absurd y2 z2
      · exact absurd y1 z1
    · refine ⟨fun _ => ?_, fun _ => x1⟩
      rcases c2 with ⟨z1, y1⟩ | ⟨z1, -⟩
      · rcases d2 with ⟨z2, y2⟩ | ⟨z2, -⟩
        · exact absurd (hh.mpr ⟨y1, y2⟩) x2
        · exact Or.inr z2
      · exact Or.inl z1
  · rcases e2 with ⟨x1, x2⟩ | ⟨x1, -⟩
    · exact hh.mp x2
    · exact absurd x1 hb
end FO
def lk (σ : pS) (S : Int) : Nat → Int
  | 0 => 0
  | k + 1 => if σ 5 k = 3 ∧ σ 31 k = S then (if σ 39 k = 2 then 0 else 1) else lk σ S k
def ud (σ : pS) (c : Nat) : Prop := ∃ k, k < c ∧ σ 5 k = 3 ∧ σ 39 k ≠ 2
theorem c_51z {σ : pS} {S : Int} : ∀ (c fu : Nat), c ≤ 20 → c < fu → f_Mach_mustWait_3_p51 fu 0 S ((c : Int) - 1) σ = some (lk σ S c, σ)
  | 0, fu, hc, hf => by
    obtain ⟨n, rfl⟩ : ∃ n, fu = n + 1 := ⟨fu - 1, by omega⟩
    show (if ((0 : Nat) : Int) - 1 < 0 then _ else _) = _
    rw [if_pos (by omega)]
    rfl
  | c + 1, fu, hc, hf => by
    obtain ⟨n, rfl⟩ : ∃ n, fu = n + 1 := ⟨fu - 1, by omega⟩
    have e : ((c + 1 : Nat) : Int) - 1 = (c : Int) := by omega
    have g : (0 : Int) ≤ (c : Int) ∧ (c : Int) < 20 := by omega
    have ih := c_51z (σ := σ) (S := S) c n (by omega) (by omega)
    rw [e]
    show (if (c : Int) < 0 then _ else _) = _
    rw [if_neg (by omega)]
    unfold f_Mach_mustWait_3_p90
    simp only [if_pos g, Int.toNat_natCast, pw_p (show c < 20 by omega) (show 20 ≤ 100000 by decide)]
    unfold lk
    by_cases h1 : σ 5 c = 3
    · rw [if_pos h1, if_pos trivial, if_pos trivial]
      by_cases h2 : σ 31 c = S
      · rw [if_pos h2, if_pos (show σ 5 c = 3 ∧ σ 31 c = S from ⟨h1, h2⟩)]
        by_cases h3 : σ 39 c = 2
        · rw [if_pos h3, if_pos h3]
        · rw [if_neg h3, if_neg h3]
      · rw [if_neg h2, if_neg (fun z => h2 z.2)]
        exact ih
    · rw [if_neg h1, if_neg (fun z => h1 z.1)]
      exact ih
theorem c_51o {σ : pS} {S : Int} : ∀ (c fu : Nat), c ≤ 20 → c < fu → ∃ b : Int, f_Mach_mustWait_3_p51 fu 1 S ((c : Int) - 1) σ = some (b, σ) ∧ ((b = 1 ∧ ud σ c) ∨ (b = 0 ∧ ¬ ud σ c))
  | 0, fu, hc, hf => by
    obtain ⟨n, rfl⟩ : ∃ n, fu = n + 1 := ⟨fu - 1, by omega⟩
    refine ⟨0, ?_, Or.inr ⟨rfl, ?_⟩⟩
    · show (if ((0 : Nat) : Int) - 1 < 0 then _ else _) = _
      rw [if_pos (by omega)]
    · rintro ⟨k, h, -⟩
      omega
  | c + 1, fu, hc, hf => by
    obtain ⟨n, rfl⟩ : ∃ n, fu = n + 1 := ⟨fu - 1, by omega⟩
    have e : ((c + 1 : Nat) : Int) - 1 = (c : Int) := by omega
    have g : (0 : Int) ≤ (c : Int) ∧ (c : Int) < 20 := by omega
    obtain ⟨b, q1, q2⟩ := c_51o (σ := σ) (S := S) c n (by omega) (by omega)
    have nx : ¬ (σ 5 c = 3 ∧ σ 39 c ≠ 2) → ((b = 1 ∧ ud σ (c + 1)) ∨ (b = 0 ∧ ¬ ud σ (c + 1))) := fun hn => by
      rcases q2 with ⟨b1, k, k1, k2⟩ | ⟨b1, b2⟩
      · exact Or.inl ⟨b1, k, by omega, k2⟩
      · refine Or.inr ⟨b1, ?_⟩
        rintro ⟨k, k1, k2⟩
        by_cases hk : k = c
        · rw [hk] at k2
          exact hn k2
        · exact b2 ⟨k, by omega, k2⟩
    rw [e]
    show ∃ b : Int, (if (c : Int) < 0 then _ else _) = _ ∧ _
    rw [if_neg (by omega)]
    unfold f_Mach_mustWait_3_p90
    simp only [if_pos g, Int.toNat_natCast, pw_p (show c < 20 by omega) (show 20 ≤ 100000 by decide), if_neg (show ¬ ((1 : Int) = 0) by decide)]
    by_cases h1 : σ 5 c = 3
    · rw [if_pos h1]
      by_cases h3 : σ 39 c = 2
      · rw [if_pos h3]
        exact ⟨b, q1, nx (fun z => z.2 h3)⟩
      · rw [if_neg h3]
        exact ⟨1, rfl, Or.inl ⟨rfl, c, by omega, h1, h3⟩⟩
    · rw [if_neg h1]
      exact ⟨b, q1, nx (fun z => h1 z.1)⟩
section KW
variable {m : Nat} {rec : Nat → O8} {D : Nat → Prop} {σ τ : pS}
theorem m_47 (H : RN m rec D σ τ) {i : Nat} (hi : i < m) : ∀ (c fu : Nat), c ≤ m → c < fu → f_M_isKeptBack_84_p47 fu (i : Int) ((c : Int) - 1) τ = some (lk σ (σ 31 i) c, τ)
  | 0, fu, hc, hf => by
    obtain ⟨n, rfl⟩ : ∃ n, fu = n + 1 := ⟨fu - 1, by omega⟩
    show (if ((0 : Nat) : Int) - 1 < 0 then _ else _) = _
    rw [if_pos (by omega)]
    rfl
  | c + 1, fu, hc, hf => by
    obtain ⟨n, rfl⟩ : ∃ n, fu = n + 1 := ⟨fu - 1, by omega⟩
    have hm := H.g.le
    have e : ((c + 1 : Nat) : Int) - 1 = (c : Int) := by omega
    have g : (0 : Int) ≤ (c : Int) ∧ (c : Int) < 20 := by omega
    have gi : (0 : Int) ≤ (i : Int) ∧ (i : Int) < 20 := by omega
    have ih := m_47 H hi c n (by omega) (by omega)
    have k1 := (H.g.kd (show c < m by omega)).1
    have k2 := (H.r.se c (by omega)).1
    have k3 := (H.r.se i hi).1
    have k4 := (H.r.st c (by omega)).1
    rw [e]
    show (if (c : Int) < 0 then _ else _) = _
    rw [if_neg (by omega)]
    simp only [if_pos g, if_pos gi, Int.toNat_natCast, pw_p (show c < 20 by omega) (show 20 ≤ 100000 by decide), k1, ← k2, ← k3, ← k4]
    unfold lk
    by_cases h1 : σ 5 c = 3
    · rw [if_pos h1]
      by_cases h2 : σ 31 c = σ 31 i
      · rw [if_pos h2, if_pos (show σ 5 c = 3 ∧ σ 31 c = σ 31 i from ⟨h1, h2⟩)]
        by_cases h3 : σ 39 c = 2
        · rw [if_pos h3, if_pos h3]
        · rw [if_neg h3, if_neg h3]
      · rw [if_neg h2, if_neg (fun z => h2 z.2)]
        exact ih
    · rw [if_neg h1, if_neg (fun z => h1 z.1)]
      exact ih
theorem m_std (H : RN m rec D σ τ) {i : Nat} (hi : i ≤ m) : ∀ (d k fu : Nat), k + d = i → d < fu → ∃ b : Int, f_M_areStoresDone_84_p2 fu (i : Int) (k : Int) τ = some (b, τ) ∧ ((b = 0 ∧ ∃ x, k ≤ x ∧ x < i ∧ σ 5 x = 3 ∧ σ 39 x ≠ 2) ∨ (b = 1 ∧ ¬ ∃ x, k ≤ x ∧ x < i ∧ σ 5 x = 3 ∧ σ 39 x ≠ 2))
  | 0, k, fu, hk, hf => by
    obtain ⟨n, rfl⟩ : ∃ n, fu = n + 1 := ⟨fu - 1, by omega⟩
    refine ⟨1, ?_, Or.inr ⟨rfl, ?_⟩⟩
    · show (if (i : Int) ≤ (k : Int) then _ else _) = _
      rw [if_pos (by omega)]
    · rintro ⟨x, h1, h2, -⟩
      omega
  | d + 1, k, fu, hk, hf => by
    obtain ⟨n, rfl⟩ : ∃ n, fu = n + 1 := ⟨fu - 1, by omega⟩
    have hm := H.g.le
    have g : (0 : Int) ≤ (k : Int) ∧ (k : Int) < 20 := by omega
    obtain ⟨b, q1, q2⟩ := m_std H hi d (k + 1) n (by omega) (by omega)
    have k1 := (H.g.kd (show k < m by omega)).1
    have k4 := (H.r.st k (by omega)).1
    have nx : ¬ (σ 5 k = 3 ∧ σ 39 k ≠ 2) → ((b = 0 ∧ ∃ x, k ≤ x ∧ x < i ∧ σ 5 x = 3 ∧ σ 39 x ≠ 2) ∨ (b = 1 ∧ ¬ ∃ x, k ≤ x ∧ x < i ∧ σ 5 x = 3 ∧ σ 39 x ≠ 2)) := fun hn => by
      rcases q2 with ⟨b1, x, x1, x2⟩ | ⟨b1, b2⟩
      · exact Or.inl ⟨b1, x, by omega, x2⟩
      · refine Or.inr ⟨b1, ?_⟩
        rintro ⟨x, x1, x2, x3⟩
        by_cases hx : x = k
        · rw [hx] at x3
          exact hn x3
        · exact b2 ⟨x, by omega, x2, x3⟩
    show ∃ b : Int, (if (i : Int) ≤ (k : Int) then _ else _) = _ ∧ _
    rw [if_neg (by omega)]
    simp only [if_pos g, Int.toNat_natCast, pw_s (show k < 20 by omega) (show 20 ≤ 100000 by decide), k1, ← k4]
    by_cases h1 : σ 5 k = 3
    · rw [if_pos h1]
      by_cases h3 : σ 39 k = 2
      · rw [if_pos h3]
        exact ⟨b, q1, nx (fun z => z.2 h3)⟩
      · rw [if_neg h3]
        exact ⟨0, rfl, Or.inl ⟨rfl, k, Nat.le_refl _, by omega, h1, h3⟩⟩
    · rw [if_neg h1]
      exact ⟨b, q1, nx (fun z => h1 z.1)⟩
/-- must it wait: the same in both -/
theorem kw_ls (H : RN m rec D σ τ) {i : Nat} (hi : i < m) {lw : Int} (hl : lw = 0 ∨ lw = 1) (h70 : τ 84 70 = lw) : ∃ b, f_Mach_mustWait_3 (i : Int) lw σ = some (b, σ) ∧ f_M_isKeptBack_84 (i : Int) τ = some (b, τ) := by
  have hm := H.g.le
  have g : (0 : Int) ≤ (i : Int) ∧ (i : Int) < 20 := by omega
  have k1 := (H.g.kd hi).1
  have k3 := (H.r.se i hi).1
  have ep : pw ((i : Int) - 1) = (i : Int) - 1 := pw_id (by omega) (by omega)
  have eX : f_Mach_mustWait_3_p21 (i : Int) σ = some (if σ 31 i = -1 then 0 else lk σ (σ 31 i) i, σ) := by
    unfold f_Mach_mustWait_3_p21 f_Mach_mustWait_3_p22
    simp only [if_pos g, Int.toNat_natCast, ep]
    rw [if_pos trivial]
    by_cases z : σ 31 i = -1
    · rw [if_pos z, if_pos z]
    · rw [if_neg z, if_neg z]
      exact c_51z i 4096 (by omega) (by omega)
  have eM : f_M_isKeptBack_84_p31 (i : Int) τ = some (if σ 31 i = -1 then 0 else lk σ (σ 31 i) i, τ) := by
    unfold f_M_isKeptBack_84_p31
    rw [if_pos g, Int.toNat_natCast, ep]
    by_cases z : σ 31 i = -1
    · rw [if_pos (by rw [← k3]; exact z), if_pos z]
    · rw [if_neg (by rw [← k3]; exact z), if_neg z]
      exact m_47 H hi i 4096 (by omega) (by omega)
  unfold f_Mach_mustWait_3 f_M_isKeptBack_84
  rw [h70]
  by_cases z : lw = 0
  · rw [if_pos z, if_pos z, eX, eM]
    exact ⟨_, rfl, rfl⟩
  · rw [if_neg z, if_neg z, if_pos g, if_pos g, Int.toNat_natCast, k1]
    by_cases z2 : σ 5 i = 2
    · rw [if_pos z2, if_pos z2]
      obtain ⟨b, q1, q2⟩ := c_51o (σ := σ) (S := σ 31 i) i 4096 (by omega) (by omega)
      obtain ⟨b', r1, r2⟩ := m_std H (Nat.le_of_lt hi) i 0 4096 (by omega) (by omega)
      have e22 : f_Mach_mustWait_3_p22 (i : Int) 1 σ = some (b, σ) := by
        unfold f_Mach_mustWait_3_p22
        rw [if_pos g, if_neg (by decide), Int.toNat_natCast, ep]
        exact q1
      have eS : f_M_areStoresDone_84 (i : Int) τ = some (b', τ) := r1
      rw [e22, eS, Option.bind_some]
      dsimp only
      refine ⟨b, rfl, ?_⟩
      rcases q2 with ⟨b1, x, x1, x2⟩ | ⟨b1, b2⟩
      · rcases r2 with ⟨c1, -⟩ | ⟨c1, c2⟩
        · rw [if_pos c1, b1]
        · exact absurd ⟨x, by omega, x1, x2⟩ c2
      · rcases r2 with ⟨c1, x, x1, x2, x3⟩ | ⟨c1, c2⟩
        · exact absurd ⟨x, x2, x3⟩ b2
        · rw [if_neg (by omega), b1]
    · rw [if_neg z2, if_neg z2, eX, eM]
      exact ⟨_, rfl, rfl⟩
end KW
