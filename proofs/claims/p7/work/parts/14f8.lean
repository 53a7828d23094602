def Prc (k x : Nat) : Prop := (25 ≤ k ∧ k ≤ 27) ∨ (k = 24 ∧ 3 ≤ x ∧ x ≤ 5) ∨ (72 ≤ k ∧ k ≤ 77) ∨ (k = 0 ∧ x = 8)
def Qrc (k x : Nat) : Prop := k = 85 ∨ k = 86 ∨ (k = 84 ∧ x = 75) ∨ (134 ≤ k ∧ k ≤ 139)
def PRf (k x : Nat) : Prop := PTn k x ∨ (k = 24 ∧ x = 5)
def PRx (k x : Nat) : Prop := PTn k x ∨ Prc k x
def QRx (k x : Nat) : Prop := QTn k x ∨ Qrc k x ∨ (k = 84 ∧ x = 1)
section H8
variable {N : Nat} {σ τ σ' τ' : pS}
theorem rc_c (σ1 : pS) (t : Int) : ∃ σ2, ((f_State_copyFrom_24_28 σ1).bind fun q5 => ((f_Rep_copyFrom_71_32 (pU q5.2 24 4 (pMin 9999 (pw ((q5.2 24 4) + 1))))).bind fun q6 => (some (t, pU q6.2 0 8 1)))) = some (t, σ2) ∧ FR Prc σ1 σ2 ∧ (∀ r, r < 8 → σ2 25 r = σ1 29 r) ∧ (∀ x, x < 64 → σ2 26 x = σ1 30 x) ∧ (∀ j, j < 20 → σ2 27 j = σ1 31 j) ∧ σ2 24 3 = σ1 28 3 ∧ σ2 24 5 = σ1 28 5 ∧ σ2 24 4 = pMin 9999 (pw (σ1 28 4 + 1)) ∧ (∀ x, x < 6 → σ2 72 x = σ1 33 x) ∧ (∀ j, j < 20 → σ2 73 j = σ1 34 j ∧ σ2 74 j = σ1 35 j ∧ σ2 75 j = σ1 36 j ∧ σ2 76 j = σ1 37 j) ∧ (∀ j, j < 80 → σ2 77 j = σ1 38 j) ∧ σ2 0 8 = 1 := by
  obtain ⟨s1, e1⟩ : ∃ s, pU (pKp (pU (pU (pKp (pKp σ1 29 25 8) 30 26 64) 24 4 (σ1 28 4)) 24 5 (σ1 28 5)) 31 27 20) 24 3 (σ1 28 3) = s := ⟨_, rfl⟩
  have c1 : f_State_copyFrom_24_28 σ1 = some (0, s1) := by
    rw [← e1]
    unfold f_State_copyFrom_24_28 f_State_copyCellsFrom_24_28 f_State_copySetsFrom_24_28
    rfl
  have f1 : FR Prc σ1 s1 := by
    rw [← e1]
    refine FR.tr ?_ (FR.u (by unfold Prc; omega))
    refine FR.tr ?_ (FR.kp (fun x _ => by unfold Prc; omega))
    refine FR.tr ?_ (FR.u (by unfold Prc; omega))
    refine FR.tr ?_ (FR.u (by unfold Prc; omega))
    refine FR.tr ?_ (FR.kp (fun x _ => by unfold Prc; omega))
    exact FR.kp (fun x _ => by unfold Prc; omega)
  have x4 : s1 24 4 = σ1 28 4 := by rw [← e1]; simp [pU, pKp]
  obtain ⟨s2, e2⟩ : ∃ s, pU (pKp (pKp (pKp (pKp (pKp (pKp (pU s1 24 4 (pMin 9999 (pw (σ1 28 4 + 1)))) 33 72 6) 34 73 20) 35 74 20) 36 75 20) 37 76 20) 38 77 80) 0 8 1 = s := ⟨_, rfl⟩
  have f2 : FR Prc s1 s2 := by
    rw [← e2]
    refine FR.tr ?_ (FR.u (by unfold Prc; omega))
    refine FR.tr ?_ (FR.kp (fun x _ => by unfold Prc; omega))
    refine FR.tr ?_ (FR.kp (fun x _ => by unfold Prc; omega))
    refine FR.tr ?_ (FR.kp (fun x _ => by unfold Prc; omega))
    refine FR.tr ?_ (FR.kp (fun x _ => by unfold Prc; omega))
    refine FR.tr ?_ (FR.kp (fun x _ => by unfold Prc; omega))
    refine FR.tr ?_ (FR.kp (fun x _ => by unfold Prc; omega))
    exact FR.u (by unfold Prc; omega)
  have z : ∀ k x, (25 ≤ k ∧ k ≤ 27) ∨ (k = 24 ∧ x ≠ 4) → s2 k x = s1 k x := fun k x h => by
    rw [← e2, pU_c _ _ _ _ (by omega), pKp_o (by omega), pKp_o (by omega), pKp_o (by omega), pKp_o (by omega), pKp_o (by omega), pKp_o (by omega)]
    unfold pU
    rw [if_neg (by omega)]
  have y : ∀ k x, 33 ≤ k → k ≤ 38 → s1 k x = σ1 k x := fun k x h1 h2 => f1.get (by unfold Prc; omega)
  refine ⟨s2, ?_, f1.tr f2, fun r hr => ?_, fun x hx => ?_, fun j hj => ?_, ?_, ?_, ?_, fun x hx => ?_, fun j hj => ⟨?_, ?_, ?_, ?_⟩, fun j hj => ?_, ?_⟩
  · rw [c1, Option.bind_some]
    dsimp only
    rw [x4, ← e2]
    unfold f_Rep_copyFrom_71_32
    rfl
  · rw [z _ _ (by omega), ← e1]; simp [pU, pKp, hr]
  · rw [z _ _ (by omega), ← e1]; simp [pU, pKp, hx]
  · rw [z _ _ (by omega), ← e1]; simp [pU, pKp, hj]
  · rw [z _ _ (by omega), ← e1]; simp [pU, pKp]
  · rw [z _ _ (by omega), ← e1]; simp [pU, pKp]
  · rw [← e2]; simp [pU, pKp]
  · rw [← e2]; simp [pU, pKp, hx, y]
  · rw [← e2]; simp [pU, pKp, hj, y]
  · rw [← e2]; simp [pU, pKp, hj, y]
  · rw [← e2]; simp [pU, pKp, hj, y]
  · rw [← e2]; simp [pU, pKp, hj, y]
  · rw [← e2]; simp [pU, pKp, hj, y]
  · rw [← e2]; simp [pU]
theorem rc_m {m : Nat} (hm : m ≤ 20) (τ1 : pS) (h2 : τ1 84 2 = (m : Int)) : ∃ τ2, f_M_run_84_p44 4096 0 τ1 = some (τ1 84 63, τ2) ∧ FR Qrc τ1 τ2 ∧ (∀ r, r < 8 → τ2 85 r = τ1 130 r) ∧ (∀ x, x < 64 → τ2 86 x = τ1 128 x) ∧ τ2 84 75 = 1 ∧ (∀ x, x < 6 → τ2 134 x = tl τ1 x) ∧ (∀ j, j < m → τ2 135 j = τ1 122 j ∧ τ2 136 j = τ1 123 j ∧ τ2 137 j = τ1 120 j ∧ τ2 138 j = τ1 121 j) ∧ ∀ x, x < 80 → τ2 139 x = τ1 124 x := by
  have k1 : f_M_run_84_p44 4096 0 τ1 = f_M_run_84_p70 4096 0 (pCp τ1 130 85 0 8) := rn_44 8 0 4096 τ1 (by omega) (by omega)
  obtain ⟨t2, e2⟩ : ∃ t, pU (pCp (pCp τ1 130 85 0 8) 128 86 0 64) 84 75 1 = t := ⟨_, rfl⟩
  have k2 : f_M_run_84_p70 4096 0 (pCp τ1 130 85 0 8) = f_M_run_84_p101 4096 0 t2 := by rw [← e2]; exact rn_70 64 0 4096 _ (by omega) (by omega)
  have f2 : FR Qrc τ1 t2 := by
    rw [← e2]
    refine FR.tr ?_ (FR.u (by unfold Qrc; omega))
    refine FR.tr ?_ (FR.cp (fun x _ => by unfold Qrc; omega))
    exact FR.cp (fun x _ => by unfold Qrc; omega)
  obtain ⟨t3, k3, f3, v3, -⟩ := rn_101 6 0 4096 t2 (by omega) (by omega)
  have k3 : f_M_run_84_p101 4096 0 t2 = f_M_run_84_p126 4096 0 t3 := k3
  obtain ⟨t4, k4, f4, v4, -⟩ := rn_126 hm m 0 4096 t3 (by omega) (by omega) (by rw [f3.get (by unfold Pk; omega), f2.get (by unfold Qrc; omega)]; exact h2)
  have k4 : f_M_run_84_p126 4096 0 t3 = f_M_run_84_p190 4096 0 t4 := k4
  have k5 : f_M_run_84_p190 4096 0 t4 = some ((pCp t4 124 139 0 80) 84 63, pCp t4 124 139 0 80) := rn_190 80 0 4096 t4 (by omega) (by omega)
  have y : ∀ k x, 120 ≤ k → k ≤ 130 → t3 k x = τ1 k x := fun k x h1 h2 => by rw [f3.get (by unfold Pk; omega), f2.get (by unfold Qrc; omega)]
  have lo : ∀ k x, k < 134 → (pCp t4 124 139 0 80) k x = t2 k x := fun k x h => by rw [pCp_o (by omega), f4.get (by unfold w126; omega), f3.get (by unfold Pk; omega)]
  refine ⟨pCp t4 124 139 0 80, ?_, ?_, fun r hr => ?_, fun x hx => ?_, ?_, fun x hx => ?_, fun j hj => ?_, fun x hx => ?_⟩
  · rw [k1, k2, k3, k4, k5, lo _ _ (by decide), f2.get (by unfold Qrc; omega)]
  · refine f2.tr ((f3.mono (fun k x h => by unfold Pk at h; unfold Qrc; omega)).tr ((f4.mono (fun k x h => by unfold w126 at h; unfold Qrc; omega)).tr (FR.cp (fun x _ => by unfold Qrc; omega))))
  · rw [lo _ _ (by decide), ← e2, pU_c _ _ _ _ (by decide), pCp_o (by decide), pCp_d (by omega) hr]
  · rw [lo _ _ (by decide), ← e2, pU_c _ _ _ _ (by decide), pCp_d (by omega) hx, pCp_o (by decide)]
  · rw [lo _ _ (by decide), ← e2, pU_s]
  · rw [pCp_o (by decide), f4.get (by unfold w126; omega), v3 x (by omega) hx]
    exact tl_cg (fun z h1 h2 => f2.get (by unfold Qrc; omega)) x
  · have z := v4 j (by omega) hj
    rw [y _ _ (by decide) (by decide), y _ _ (by decide) (by decide), y _ _ (by decide) (by decide), y _ _ (by decide) (by decide)] at z
    rw [pCp_o (by decide), pCp_o (by decide), pCp_o (by decide), pCp_o (by decide)]
    exact z
  · rw [pCp_d (by omega) hx, f4.get (by unfold w126; omega), y _ _ (by decide) (by decide)]
theorem w_run (a : Int) (h : WR N σ τ) : ∃ v σ' τ', f_X_run_0 a σ = some (v, σ') ∧ f_M_run_84 a τ = some (v, τ') ∧ WS N σ τ σ' τ' := by
  obtain ⟨m, rec, hG⟩ := h.2.1.pg
  have hm := hG.le
  have e11 := hG.cm
  unfold f_X_run_0 f_M_run_84
  rw [x_can hG.cm, m_can hG.mm, Option.bind_some, Option.bind_some]
  dsimp only
  by_cases g : (1 ≤ a ∧ a ≤ 4) ∧ 0 < m
  · rw [if_pos g, if_neg (show ¬ (1 : Int) = 0 by decide), if_neg (show ¬ (1 : Int) = 0 by decide)]
    obtain ⟨a1, a2, a3, a4, a5, a6, a7, a8⟩ := h
    obtain ⟨mL, cL, RL, hL⟩ := a3.lw
    obtain ⟨hS, hS2⟩ := a4.sr hm e11
    obtain ⟨σ1, τ1, f1, f2, q1, q2, q3, q4⟩ := rn_ls (w := a) (Or.inl rfl) hG hS hS2 hL
    obtain ⟨s1, s2, s3, s4, s5, s6, s7⟩ := a4
    have x11 : σ1 4 11 = σ 4 11 := f1.get (by unfold PTn; omega)
    rcases q4 with ⟨r1, r2, x1, x2, x3⟩ | ⟨t, r1, r2, r3⟩
    · obtain ⟨τ2, p1, p2, p3, -, p5⟩ := psb hm m 0 4096 τ1 (by omega) (by omega) ((f2.get (by unfold QTn; omega)).trans hG.mm)
      have p1 : f_M_putsSetsBack_84 τ1 = some (0, τ2) := p1
      have F1 : FR PRf σ (pU σ1 24 5 (σ1 28 5)) := (f1.mono (fun k x z => Or.inl z)).tr (FR.u (Or.inr ⟨rfl, rfl⟩))
      have F2 : FR QTn τ τ2 := f2.tr (p2.mono (fun k x z => by unfold wqs at z; unfold QTn; omega))
      rw [r1, r2, Option.bind_some, Option.bind_some]
      dsimp only
      rw [if_pos rfl, if_pos rfl, p1, Option.bind_some]
      refine ⟨-5, _, τ2, rfl, rfl, WS.of (F1) (F2) (fun k x z => by unfold PRf PTn at z; omega) (fun k x z => by unfold QTn at z; omega) ⟨a1.q ((F1).eq (fun k x z => by unfold PRf PTn at z; unfold wcT; omega)) ((F2).eq (fun k x z => by unfold QTn at z; unfold wmT; omega)), a2.q ((F1).eq (fun k x z => by unfold PRf PTn at z; unfold wcP; omega)) ((F2).eq (fun k x z => by unfold QTn at z; unfold wmP; omega)), a3.q ((F1).eq (fun k x z => by unfold PRf PTn at z; unfold wcL; omega)) ((F2).eq (fun k x z => by unfold QTn at z; unfold wmL; omega)), ?_, a5.q ((F1).eq (fun k x z => by unfold PRf PTn at z; unfold wcR; omega)) ((F2).eq (fun k x z => by unfold QTn at z; unfold wmR; omega)), a6.q ((F1).eq (fun k x z => by unfold PRf PTn at z; unfold wcK; omega)) ((F2).eq (fun k x z => by unfold QTn at z; unfold wmK; omega)), a7.q ((F1).eq (fun k x z => by unfold PRf PTn at z; unfold wcW; omega)) ((F2).eq (fun k x z => by unfold QTn at z; unfold wmW; omega)), a8.q ((F2).get (by unfold QTn; omega))⟩⟩
      have c : ∀ k x, (k ≠ 24 ∨ x ≠ 5) → ¬ PTn k x → pU σ1 24 5 (σ1 28 5) k x = σ k x := fun k x z y => by
        rw [← f1.get y]
        unfold pU
        rw [if_neg (by omega)]
      have d : ∀ k x, ¬ QTn k x → τ2 k x = τ k x := fun k x y => by rw [p2.get (by unfold QTn at y; unfold wqs; omega), f2.get y]
      refine ⟨fun r hr => ?_, fun x hx => ?_, fun j hj => ?_, fun j hj => ?_, ?_, ?_, ?_⟩
      · rw [c 25 r (by omega) (by unfold PTn; omega), d 85 r (by unfold QTn; omega)]; exact s1 r hr
      · rw [c 26 x (by omega) (by unfold PTn; omega), d 86 x (by unfold QTn; omega)]; exact s2 x hx
      · rw [c 4 11 (by omega) (by unfold PTn; omega)] at hj
        rw [c 27 j (by omega) (by unfold PTn; omega), p3 j (by omega) (by omega), q2 j (by omega)]; exact s3 j hj
      · rw [c 27 j (by omega) (by unfold PTn; omega), c 4 11 (by omega) (by unfold PTn; omega)]; exact s4 j hj
      · rw [c 24 3 (by omega) (by unfold PTn; omega), p5, q3]; exact s5
      · rw [pU_s, p2.get (by unfold wqs; omega), x1]; exact ⟨rfl, x2, x3⟩
      · rw [c 24 4 (by omega) (by unfold PTn; omega), d 84 1 (by unfold QTn; omega)]; exact s7
    · obtain ⟨-, RMx, -, rE, r6, r7, r8, r9, r10⟩ := r3
      have hr28 : σ1 28 4 = σ 24 4 := q1
      have y1 : τ1 84 1 = τ 84 1 := f2.get (by unfold QTn; omega)
      obtain ⟨y, hy1, hy2, hy3⟩ : ∃ y : Int, pMin 9999 (pw (σ1 28 4 + 1)) = y ∧ f_M_min 9999 (pw (τ1 84 1 + 1)) τ1 = some (y, τ1) ∧ 0 ≤ y ∧ y ≤ 9999 := by
        rw [y1, hr28, ← s7.1, pw_id (by omega) (by omega)]
        unfold f_M_min pMin
        by_cases z : σ 24 4 + 1 ≤ 9999
        · rw [if_pos z]
          refine ⟨σ 24 4 + 1, ?_, rfl, by omega, z⟩
          by_cases z2 : σ 24 4 + 1 < 9999
          · rw [if_pos z2]
          · rw [if_neg z2]; omega
        · rw [if_neg z, if_neg (by omega)]
          exact ⟨9999, rfl, rfl, by omega, by omega⟩
      obtain ⟨σ2, c1, c2, c3, c4, c5, c6, c7, c8, c9, c10, c11, c12⟩ := rc_c σ1 t
      obtain ⟨t1, e1⟩ : ∃ u, pU τ1 84 1 y = u := ⟨_, rfl⟩
      have v : ∀ k x, (k ≠ 84 ∨ x ≠ 1) → t1 k x = τ1 k x := fun k x z => by
        rw [← e1]
        unfold pU
        rw [if_neg (by omega)]
      obtain ⟨τ2, d1, d2, d3, d4, d5, d6, d7, d8⟩ := rc_m hm t1 (by rw [v _ _ (by omega), f2.get (by unfold QTn; omega)]; exact hG.mm)
      have F1 : FR PRx σ σ2 := (f1.mono (fun k x z => Or.inl z)).tr (c2.mono (fun k x z => Or.inr z))
      have F2 : FR QRx τ τ2 := ((f2.mono (fun k x z => Or.inl z)).tr (by rw [← e1]; exact FR.u (Or.inr (Or.inr ⟨rfl, rfl⟩)))).tr (d2.mono (fun k x z => Or.inr (Or.inl z)))
      rw [r1, r2, Option.bind_some, Option.bind_some]
      dsimp only
      rw [if_neg (show ¬ t = -5 by omega), c1, if_neg (show ¬ (1 : Int) = 0 by decide), hy2, Option.bind_some]
      dsimp only
      rw [e1, d1, v 84 63 (by omega), r7]
      have z11 : σ2 4 11 = σ 4 11 := F1.get (by unfold PRx PTn Prc; omega)
      have z5 : ∀ j, σ2 5 j = σ 5 j := fun j => F1.get (by unfold PRx PTn Prc; omega)
      have z7 : ∀ j, σ2 7 j = σ 7 j := fun j => F1.get (by unfold PRx PTn Prc; omega)
      have u5 : ∀ j, σ1 5 j = σ 5 j := fun j => f1.get (by unfold PTn; omega)
      have u7 : ∀ j, σ1 7 j = σ 7 j := fun j => f1.get (by unfold PTn; omega)
      refine ⟨t, σ2, τ2, rfl, rfl, WS.of (F1) (F2) (fun k x z => by unfold PRx PTn Prc at z; omega) (fun k x z => by unfold QRx QTn Qrc at z; omega) ⟨a1.q ((F1).eq (fun k x z => by unfold PRx PTn Prc at z; unfold wcT; omega)) ((F2).eq (fun k x z => by unfold QRx QTn Qrc at z; unfold wmT; omega)), a2.q ((F1).eq (fun k x z => by unfold PRx PTn Prc at z; unfold wcP; omega)) ((F2).eq (fun k x z => by unfold QRx QTn Qrc at z; unfold wmP; omega)), a3.q ((F1).eq (fun k x z => by unfold PRx PTn Prc at z; unfold wcL; omega)) ((F2).eq (fun k x z => by unfold QRx QTn Qrc at z; unfold wmL; omega)), ?_, ?_, a6.q ((F1).eq (fun k x z => by unfold PRx PTn Prc at z; unfold wcK; omega)) ((F2).eq (fun k x z => by unfold QRx QTn Qrc at z; unfold wmK; omega)), a7.q ((F1).eq (fun k x z => by unfold PRx PTn Prc at z; unfold wcW; omega)) ((F2).eq (fun k x z => by unfold QRx QTn Qrc at z; unfold wmW; omega)), a8.q ((F2).get (by unfold QRx QTn Qrc; omega))⟩⟩
      · refine ⟨fun r hr => ?_, fun x hx => ?_, fun j hj => ?_, fun j hj => ?_, ?_, ?_, ?_⟩
        · rw [c3 r hr, d3 r hr, v _ _ (by omega)]; exact rE r hr
        · rw [c4 x hx, d4 x hx, v _ _ (by omega)]; exact RMx.me x hx
        · rw [z11] at hj
          rw [c5 j (by omega), d2.get (by unfold Qrc; omega), v _ _ (by omega)]; exact (RMx.se j (by omega)).1
        · rw [c5 j hj, z11]
          by_cases k : j < m
          · have q := RMx.se j k
            exact ⟨q.2.1, q.2.2, fun _ => by omega⟩
          · have q := RMx.sh j (by omega) hj
            rw [q]
            exact ⟨by decide, by decide, fun _ => rfl⟩
        · rw [c6, d2.get (by unfold Qrc; omega), v _ _ (by omega)]; exact RMx.ns
        · rw [c7, d2.get (by unfold Qrc; omega), v _ _ (by omega)]; exact RMx.x
        · rw [c8, hy1, d2.get (by unfold Qrc; omega), ← e1, pU_s]; exact ⟨rfl, hy3⟩
      · refine ⟨by rw [c12, d5], fun _ => ⟨by rw [z11]; omega, fun x hx => ?_, fun j hj => ?_⟩⟩
        · rw [c9 x hx, d6 x hx, tl_cg (fun q h1 h2 => v 84 q (by omega)) x]
          unfold tl
          rcases (show x = 0 ∨ x = 1 ∨ x = 2 ∨ x = 3 ∨ x = 4 ∨ x = 5 by omega) with z | z | z | z | z | z
          · subst z; exact r6.trans r7.symm
          · subst z; exact r10
          · subst z; exact RMx.cr
          · subst z; exact RMx.ca
          · subst z; exact RMx.cu
          · subst z; exact RMx.cd
        · rw [z11] at hj
          have hj' : j < m := by omega
          have h20 : j < 20 := by omega
          obtain ⟨b1, b2, b3, b4⟩ := c10 j h20
          obtain ⟨b5, b6, b7, b8⟩ := d7 j hj'
          obtain ⟨va1, va2, va3, va4⟩ := RMx.va j hj' trivial
          rw [b1, b2, b3, b4, b5, b6, b7, b8, v _ _ (by omega), v _ _ (by omega), v _ _ (by omega), v _ _ (by omega), z5, z7]
          refine ⟨va2, RMx.rp j hj', va1, fun k => va3 (by rw [u5]; exact k), fun k e he => ?_⟩
          have sz := hG.sz hj' (by omega)
          have h80 : 4 * j + e < 80 := by omega
          rw [c11 _ h80, d8 _ h80, v _ _ (by omega)]
          exact va4 (by rw [u5]; exact k) e (by rw [u7]; exact he)
  · rw [if_neg g, if_pos rfl, if_pos rfl]
    exact ⟨_, _, _, rfl, rfl, h.sm⟩
end H8
