theorem RM.es {m : Nat} {D : Nat → Prop} {s σ τ : pS} (h : RM m D s τ) (e : FR P_sno s σ) : RM m D σ τ := h.sno e (FR.rf _ _)
def ES (s σ : pS) : Prop := ∀ k x, k ≠ 43 → σ k x = s k x
theorem cmt_ES {s σ : pS} (h : ES s σ) (a b : Nat) : ES (cmt a b s) (cmt a b σ) := by
  intro k x hk
  unfold cmt
  rw [h 31 a (by decide), h 31 b (by decide), h 28 3 (by decide)]
  by_cases z : s 31 a = -1 ∧ s 31 b = -1
  · rw [if_pos z, if_pos z]
    unfold pU
    rw [h k x hk]
  · rw [if_neg z, if_neg z]
    unfold pU
    rw [h k x hk]
def cmts (j : Nat) : List Nat → pS → pS
  | [], σ => σ
  | w :: ws, σ => cmts j ws (cmt w j σ)
def mmts (j : Nat) : List Nat → pS → pS
  | [], τ => τ
  | w :: ws, τ => mmts j ws (mmt w j τ)
theorem cmts_fr (j : Nat) : ∀ (ws : List Nat) (σ : pS), FR P_ml σ (cmts j ws σ)
  | [], σ => FR.rf _ _
  | w :: ws, σ => (cmt_fr w j σ).tr (cmts_fr j ws _)
theorem mmts_fr (j : Nat) : ∀ (ws : List Nat) (τ : pS), FR Q_ml τ (mmts j ws τ)
  | [], τ => FR.rf _ _
  | w :: ws, τ => (mmt_fr w j τ).tr (mmts_fr j ws _)
theorem melts_ls {m : Nat} {D : Nat → Prop} {j : Nat} (hj : j < m) : ∀ (ws : List Nat) {σ τ : pS}, RM m D σ τ → (∀ w ∈ ws, w < m) → RM m D (cmts j ws σ) (mmts j ws τ)
  | [], σ, τ, h, _ => h
  | w :: ws, σ, τ, h, hw => melts_ls hj ws (melt_ls h (hw w List.mem_cons_self) hj) (fun x hx => hw x (List.mem_cons_of_mem _ hx))
/-- a load that took too old a byte -/
def wl (σ : pS) (j k : Nat) : Prop := σ 5 k = 2 ∧ σ 39 k = 2 ∧ tko σ k j 0
theorem wl_cg {σ σ' : pS} {j k : Nat} (a : ∀ q x, (q = 5 ∨ q = 7 ∨ q = 37 ∨ q = 38 ∨ q = 39) → σ' q x = σ q x) : wl σ' j k ↔ wl σ j k := by
  unfold wl tko
  rw [a 5 _ (by omega), a 39 _ (by omega), a 7 _ (by omega), a 7 _ (by omega), a 37 _ (by omega), a 37 _ (by omega)]
  constructor
  · rintro ⟨h1, h2, e, e1, e2, e3, e4⟩
    rw [a 38 _ (by omega)] at e3
    exact ⟨h1, h2, e, e1, e2, e3, e4⟩
  · rintro ⟨h1, h2, e, e1, e2, e3, e4⟩
    rw [← a 38 _ (by omega)] at e3
    exact ⟨h1, h2, e, e1, e2, e3, e4⟩
def QW (c : Nat) (σ : pS) (F : List Nat) : Prop := ∀ (a x : Nat), F[a]? = some x → σ c a = (x : Int)
theorem QW.app {c : Nat} {σ : pS} {F : List Nat} (h : QW c σ F) (k : Nat) : QW c (pU σ c F.length (k : Int)) (F ++ [k]) := by
  intro a x hx
  by_cases ha : a = F.length
  · rw [ha, List.getElem?_append_right (Nat.le_refl _)] at hx
    simp at hx
    rw [ha, pU_s, hx]
  · have h1 : a < F.length := by
      have := (List.getElem?_eq_some_iff.mp hx).1
      rw [List.length_append] at this
      simp at this
      omega
    rw [List.getElem?_append_left h1] at hx
    rw [pU_i _ _ _ _ ha]
    exact h a x hx
theorem c_lb6 {m : Nat} {rec : Nat → O8} {D : Nat → Prop} {j : Nat} (hj : j < m) : ∀ (d k fu : Nat) (s σ τv : pS) (F : List Nat), k + d = m → d < fu → PG m rec s τv → RM m D s τv → ES s σ → QW 43 σ F → F.length + j + 1 ≤ k →
    ∃ ws σ1, f_Mach_lookBack_3_p6 fu (j : Int) (F.length : Int) (k : Int) σ = f_Mach_lookBack_3_p76 4096 ((F ++ ws).length : Int) 0 σ1 ∧ Fl (wl s j) k d ws ∧ ES (cmts j ws s) σ1 ∧ QW 43 σ1 (F ++ ws)
  | 0, k, fu, s, σ, τv, F, hk, hf, hG, h, hE, hQ, hl => by
    obtain ⟨n, rfl⟩ : ∃ n, fu = n + 1 := ⟨fu - 1, by omega⟩
    refine ⟨[], σ, ?_, .nil k, hE, by rw [List.append_nil]; exact hQ⟩
    show (if σ 4 11 ≤ (k : Int) then _ else _) = _
    rw [hE 4 11 (by decide), hG.cm, if_pos (by omega), List.append_nil]
  | d + 1, k, fu, s, σ, τv, F, hk, hf, hG, h, hE, hQ, hl => by
    obtain ⟨n, rfl⟩ : ∃ n, fu = n + 1 := ⟨fu - 1, by omega⟩
    have hm := hG.le
    have hkm : k < m := by omega
    have g : (0 : Int) ≤ (k : Int) ∧ (k : Int) < 20 := by omega
    have hk20 : k < 20 := by omega
    have eX : f_Mach_lookBack_3_p6 (n + 1) (j : Int) (F.length : Int) (k : Int) σ = (if s 5 k = 2 then (if s 39 k = 2 then ((f_Mach_tookTooOld_3 (k : Int) (j : Int) σ).bind fun q12 => (if q12.1 = 0 then (f_Mach_lookBack_3_p6 n (j : Int) (F.length : Int) ((k + 1 : Nat) : Int) q12.2) else (if 0 ≤ (F.length : Int) ∧ (F.length : Int) < 20 then ((f_State_melt_28 (k : Int) (j : Int) (pU q12.2 43 F.length (k : Int))).bind fun q15 => (f_Mach_lookBack_3_p6 n (j : Int) (pw ((F.length : Int) + 1)) ((k + 1 : Nat) : Int) q15.2)) else none))) else (f_Mach_lookBack_3_p6 n (j : Int) (F.length : Int) ((k + 1 : Nat) : Int) σ)) else (f_Mach_lookBack_3_p6 n (j : Int) (F.length : Int) ((k + 1 : Nat) : Int) σ)) := by
      show (if σ 4 11 ≤ (k : Int) then _ else _) = _
      rw [hE 4 11 (by decide), hG.cm, if_neg (by omega)]
      simp only [if_pos g, Int.toNat_natCast, pw_s hk20 (show 20 ≤ 100000 by decide), hE 5 k (by decide), hE 39 k (by decide)]
    have no : ¬ wl s j k → f_Mach_lookBack_3_p6 (n + 1) (j : Int) (F.length : Int) (k : Int) σ = f_Mach_lookBack_3_p6 n (j : Int) (F.length : Int) ((k + 1 : Nat) : Int) σ → ∃ ws σ1, f_Mach_lookBack_3_p6 (n + 1) (j : Int) (F.length : Int) (k : Int) σ = f_Mach_lookBack_3_p76 4096 ((F ++ ws).length : Int) 0 σ1 ∧ Fl (wl s j) k (d + 1) ws ∧ ES (cmts j ws s) σ1 ∧ QW 43 σ1 (F ++ ws) := fun hw he => by
      obtain ⟨ws, σ1, q1, q2, q3⟩ := c_lb6 hj d (k + 1) n s σ τv F (by omega) (by omega) hG h hE hQ (by omega)
      exact ⟨ws, σ1, he.trans q1, .no hw q2, q3⟩
    by_cases h5 : s 5 k = 2
    · by_cases h39 : s 39 k = 2
      · obtain ⟨y1, y2⟩ := hG.sz hkm (by omega)
        obtain ⟨sz, hs, hs4⟩ : ∃ s9 : Nat, σ 7 k = (s9 : Int) ∧ s9 ≤ 4 := ⟨(s 7 k).toNat, by rw [hE 7 k (by decide)]; omega, by omega⟩
        obtain ⟨b, b1, b2⟩ := c_tko (σ := σ) (show k < 20 by omega) (show j < 20 by omega) hs hs4 sz 0 4096 (by omega) (by omega)
        have ew : wl σ j k ↔ wl s j k := wl_cg (fun q x hq => hE q x (by omega))
        rw [show f_Mach_tookTooOld_3 (k : Int) (j : Int) σ = some (b, σ) from b1, if_pos h5, if_pos h39, Option.bind_some] at eX
        dsimp only at eX
        rcases b2 with ⟨z1, z2⟩ | ⟨z1, z2⟩
        · have hw : wl s j k := ew.mp ⟨by rw [hE 5 k (by decide)]; exact h5, by rw [hE 39 k (by decide)]; exact h39, z2⟩
          have sk := h.se k hkm
          have sj := h.se j hj
          have em : f_State_melt_28 (k : Int) (j : Int) (pU σ 43 F.length (k : Int)) = some (0, cmt k j (pU σ 43 F.length (k : Int))) := c_melt (by omega) (by omega) (by rw [pU_c _ _ _ _ (by decide), hE 31 k (by decide)]; exact sk.2.1) (by rw [pU_c _ _ _ _ (by decide), hE 31 j (by decide)]; exact sj.2.1)
          rw [if_neg (by omega), if_pos (by omega), em, Option.bind_some, pw_s (show F.length < 20 by omega) (by decide)] at eX
          have hE1 : ES s (pU σ 43 F.length (k : Int)) := fun q x hq => (pU_c _ _ _ _ hq).trans (hE q x hq)
          have f1 := cmt_fr k j s
          have f2 := mmt_fr k j τv
          obtain ⟨ws, σ1, q1, q2, q3, q4⟩ := c_lb6 hj d (k + 1) n (cmt k j s) (cmt k j (pU σ 43 F.length (k : Int))) (mmt k j τv) (F ++ [k]) (by omega) (by omega) (hG.fr (f1.mono (fun a b hh => by unfold P_ml at hh; unfold PN; omega)) (f2.mono (fun a b hh => by unfold Q_ml at hh; unfold QN; omega))) (melt_ls h hkm hj) (cmt_ES hE1 k j) (fun a x hx => by
            rw [(cmt_fr k j (pU σ 43 F.length (k : Int))).get (k := 43) (by unfold P_ml; omega)]
            exact hQ.app k a x hx) (by rw [List.length_append]; simp; omega)
          have el : ((F ++ [k]).length : Int) = ((F.length + 1 : Nat) : Int) := by rw [List.length_append]; simp
          rw [el] at q1
          rw [List.append_assoc] at q1 q4
          exact ⟨k :: ws, σ1, eX.trans q1, .yes hw (q2.cg (fun x _ _ => wl_cg (fun q y hq => f1.get (by unfold P_ml; omega)))), q3, q4⟩
        · rw [if_pos z1] at eX
          exact no (fun z => z2 (ew.mpr z).2.2) eX
      · rw [if_pos h5, if_neg h39] at eX
        exact no (fun z => h39 z.2.1) eX
    · rw [if_neg h5] at eX
      exact no (fun z => h5 z.1) eX
theorem m_lb6 {m : Nat} {rec : Nat → O8} {D : Nat → Prop} {j : Nat} (hj : j < m) (hD : D j) {s : pS} (hk3 : s 5 j = 3) : ∀ (d k fu : Nat) (τ : pS) (F : List Nat), k + d = m → d < fu → PG m rec s τ → RM m D s τ → QW 133 τ F → F.length + j + 1 ≤ k →
    ∃ ws τ1, f_M_looksBack_84_p6 fu (j : Int) (F.length : Int) (k : Int) τ = f_M_looksBack_84_p75 4096 (j : Int) ((F ++ ws).length : Int) 0 (pU τ1 84 64 (pw (τ 84 64 + ((F ++ ws).length : Int)))) ∧ Fl (wl s j) k d ws ∧ FR (fun k _ => k = 133) τ τ1 ∧ QW 133 τ1 (F ++ ws)
  | 0, k, fu, τ, F, hk, hf, hG, h, hQ, hl => by
    obtain ⟨n, rfl⟩ : ∃ n, fu = n + 1 := ⟨fu - 1, by omega⟩
    refine ⟨[], τ, ?_, .nil k, FR.rf _ _, by rw [List.append_nil]; exact hQ⟩
    show (if τ 84 2 ≤ (k : Int) then _ else _) = _
    rw [hG.mm, if_pos (by omega), List.append_nil]
  | d + 1, k, fu, τ, F, hk, hf, hG, h, hQ, hl => by
    obtain ⟨n, rfl⟩ : ∃ n, fu = n + 1 := ⟨fu - 1, by omega⟩
    have hm := hG.le
    have hkm : k < m := by omega
    have g : (0 : Int) ≤ (k : Int) ∧ (k : Int) < 20 := by omega
    have kk := hG.kd hkm
    have sk := h.st k hkm
    have hk20 : k < 20 := by omega
    have eX : f_M_looksBack_84_p6 (n + 1) (j : Int) (F.length : Int) (k : Int) τ = (if s 5 k = 2 then (if s 39 k = 2 then ((f_M_tookOld_84 (k : Int) (j : Int) τ).bind fun q15 => (if q15.1 = 0 then (f_M_looksBack_84_p6 n (j : Int) (F.length : Int) ((k + 1 : Nat) : Int) q15.2) else (if 0 ≤ (F.length : Int) ∧ (F.length : Int) < 20 then (f_M_looksBack_84_p6 n (j : Int) (pw ((F.length : Int) + 1)) ((k + 1 : Nat) : Int) (pU q15.2 133 F.length (k : Int))) else none))) else (f_M_looksBack_84_p6 n (j : Int) (F.length : Int) ((k + 1 : Nat) : Int) τ)) else (f_M_looksBack_84_p6 n (j : Int) (F.length : Int) ((k + 1 : Nat) : Int) τ)) := by
      show (if τ 84 2 ≤ (k : Int) then _ else _) = _
      rw [hG.mm, if_neg (by omega)]
      simp only [if_pos g, Int.toNat_natCast, pw_s hk20 (show 20 ≤ 100000 by decide), kk.1, ← sk.1]
    have no : ¬ wl s j k → f_M_looksBack_84_p6 (n + 1) (j : Int) (F.length : Int) (k : Int) τ = f_M_looksBack_84_p6 n (j : Int) (F.length : Int) ((k + 1 : Nat) : Int) τ → ∃ ws τ1, f_M_looksBack_84_p6 (n + 1) (j : Int) (F.length : Int) (k : Int) τ = f_M_looksBack_84_p75 4096 (j : Int) ((F ++ ws).length : Int) 0 (pU τ1 84 64 (pw (τ 84 64 + ((F ++ ws).length : Int)))) ∧ Fl (wl s j) k (d + 1) ws ∧ FR (fun k _ => k = 133) τ τ1 ∧ QW 133 τ1 (F ++ ws) := fun hw he => by
      obtain ⟨ws, τ1, q1, q2, q3⟩ := m_lb6 hj hD hk3 d (k + 1) n τ F (by omega) (by omega) hG h hQ (by omega)
      exact ⟨ws, τ1, he.trans q1, .no hw q2, q3⟩
    by_cases h5 : s 5 k = 2
    · by_cases h39 : s 39 k = 2
      · obtain ⟨y1, y2⟩ := hG.sz hkm (by omega)
        obtain ⟨y3, -⟩ := hG.sz hj (by omega)
        obtain ⟨sz, hs, hs4⟩ : ∃ s9 : Nat, s 7 k = (s9 : Int) ∧ s9 ≤ 4 := ⟨(s 7 k).toNat, by omega, by omega⟩
        have va := h.va k hkm (h.dn k hkm h39)
        have vj := h.va j hj hD
        obtain ⟨b, b1, b2⟩ := m_tko (σ := s) (τ := τ) (show k < 20 by omega) (show j < 20 by omega) hs hs4 y1 y3 (va.2.2.1 (by omega)).symm (vj.2.2.1 (by omega)).symm (va.2.2.2 h5) sz 0 4096 (by omega) (by omega)
        rw [show f_M_tookOld_84 (k : Int) (j : Int) τ = some (b, τ) from b1, if_pos h5, if_pos h39, Option.bind_some] at eX
        dsimp only at eX
        rcases b2 with ⟨z1, z2⟩ | ⟨z1, z2⟩
        · rw [if_neg (by omega), if_pos (by omega), pw_s (show F.length < 20 by omega) (by decide)] at eX
          have f1 : FR (fun k _ => k = 133) τ (pU τ 133 F.length (k : Int)) := FR.u rfl
          obtain ⟨ws, τ1, q1, q2, q3, q4⟩ := m_lb6 hj hD hk3 d (k + 1) n (pU τ 133 F.length (k : Int)) (F ++ [k]) (by omega) (by omega) (hG.fr (FR.rf _ _) (f1.mono (fun a b hh => by have hh : a = 133 := hh; unfold QN; omega))) (h.sno (FR.rf _ _) (f1.mono (fun a b hh => by have hh : a = 133 := hh; unfold Q_sno; omega))) (hQ.app k) (by rw [List.length_append]; simp; omega)
          have el : ((F ++ [k]).length : Int) = ((F.length + 1 : Nat) : Int) := by rw [List.length_append]; simp
          rw [el] at q1
          rw [List.append_assoc] at q1 q4
          rw [pU_c _ _ _ _ (by decide)] at q1
          exact ⟨k :: ws, τ1, eX.trans q1, .yes ⟨h5, h39, z2⟩ q2, f1.tr q3, q4⟩
        · rw [if_pos z1] at eX
          exact no (fun z => z2 z.2.2) eX
      · rw [if_pos h5, if_neg h39] at eX
        exact no (fun z => h39 z.2.1) eX
    · rw [if_neg h5] at eX
      exact no (fun z => h5 z.1) eX
