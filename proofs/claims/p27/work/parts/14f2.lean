/-- the numbers i to n - 1 of a put into b -/
def pCp (σ : pS) (a b i n : Nat) : pS := fun k x => if k = b ∧ i ≤ x ∧ x < n then σ a x else σ k x
theorem pCp_e {σ : pS} {a b n : Nat} : pCp σ a b n n = σ := by
  funext k x
  unfold pCp
  rw [if_neg (by omega)]
theorem pCp_s {σ : pS} {a b i n : Nat} (hab : a ≠ b) (h : i < n) : pCp (pU σ b i (σ a i)) a b (i + 1) n = pCp σ a b i n := by
  funext k x
  unfold pCp
  by_cases z : k = b ∧ i ≤ x ∧ x < n
  · rw [if_pos z]
    by_cases y : x = i
    · rw [if_neg (by omega), z.1, y, pU_s]
    · rw [if_pos (by omega), pU_c _ _ _ _ hab]
  · rw [if_neg z, if_neg (by omega)]
    unfold pU
    rw [if_neg (by omega)]
theorem pCp_d {σ : pS} {a b i n x : Nat} (h1 : i ≤ x) (h2 : x < n) : pCp σ a b i n b x = σ a x := if_pos ⟨rfl, h1, h2⟩
theorem pCp_o {σ : pS} {a b i n k x : Nat} (h : k ≠ b) : pCp σ a b i n k x = σ k x := if_neg (fun e => h e.1)
theorem FR.cp {P : Nat → Nat → Prop} {σ : pS} {a b i n : Nat} (h : ∀ x, x < n → P b x) : FR P σ (pCp σ a b i n) := fun k x => by
  by_cases z : k = b ∧ i ≤ x ∧ x < n
  · rw [z.1]; exact Or.inl (h x z.2.2)
  · exact Or.inr (if_neg z)
theorem kp_39 : ∀ (d i fu : Nat) (τ : pS), i + d = 8 → d < fu → f_M_keep_84_p39 fu (i : Int) τ = f_M_keep_84_p65 4096 0 (pCp τ 85 146 i 8)
  | 0, i, fu, τ, hi, hf => by
    obtain ⟨n, rfl⟩ : ∃ n, fu = n + 1 := ⟨fu - 1, by omega⟩
    obtain rfl : i = 8 := by omega
    rw [pCp_e]
    show (if (8 : Int) ≤ ((8 : Nat) : Int) then _ else _) = _
    rw [if_pos (by decide)]
  | d + 1, i, fu, τ, hi, hf => by
    obtain ⟨n, rfl⟩ : ∃ n, fu = n + 1 := ⟨fu - 1, by omega⟩
    have g : (0 : Int) ≤ (i : Int) ∧ (i : Int) < 8 := by omega
    have iL : i < 8 := by omega
    have k1 : ¬ (8 : Int) ≤ (i : Int) := by omega
    have ih := kp_39 d (i + 1) n (pU τ 146 i (τ 85 i)) (by omega) (by omega)
    show (if (8 : Int) ≤ (i : Int) then _ else _) = _
    rw [if_neg k1, if_pos g, if_pos g, Int.toNat_natCast, pw_s iL (by decide), ih, pCp_s (by decide) iL]
theorem kp_65 : ∀ (d i fu : Nat) (τ : pS), i + d = 64 → d < fu → f_M_keep_84_p65 fu (i : Int) τ = f_M_keep_84_p91 4096 0 (pCp τ 86 147 i 64)
  | 0, i, fu, τ, hi, hf => by
    obtain ⟨n, rfl⟩ : ∃ n, fu = n + 1 := ⟨fu - 1, by omega⟩
    obtain rfl : i = 64 := by omega
    rw [pCp_e]
    show (if (64 : Int) ≤ ((64 : Nat) : Int) then _ else _) = _
    rw [if_pos (by decide)]
  | d + 1, i, fu, τ, hi, hf => by
    obtain ⟨n, rfl⟩ : ∃ n, fu = n + 1 := ⟨fu - 1, by omega⟩
    have g : (0 : Int) ≤ (i : Int) ∧ (i : Int) < 64 := by omega
    have iL : i < 64 := by omega
    have k1 : ¬ (64 : Int) ≤ (i : Int) := by omega
    have ih := kp_65 d (i + 1) n (pU τ 147 i (τ 86 i)) (by omega) (by omega)
    show (if (64 : Int) ≤ (i : Int) then _ else _) = _
    rw [if_neg k1, if_pos g, if_pos g, Int.toNat_natCast, pw_s iL (by decide), ih, pCp_s (by decide) iL]
theorem kp_91 : ∀ (d i fu : Nat) (τ : pS), i + d = 20 → d < fu → f_M_keep_84_p91 fu (i : Int) τ = some ((pCp τ 87 148 i 20) 84 1, (pCp τ 87 148 i 20))
  | 0, i, fu, τ, hi, hf => by
    obtain ⟨n, rfl⟩ : ∃ n, fu = n + 1 := ⟨fu - 1, by omega⟩
    obtain rfl : i = 20 := by omega
    rw [pCp_e]
    show (if (20 : Int) ≤ ((20 : Nat) : Int) then _ else _) = _
    rw [if_pos (by decide)]
  | d + 1, i, fu, τ, hi, hf => by
    obtain ⟨n, rfl⟩ : ∃ n, fu = n + 1 := ⟨fu - 1, by omega⟩
    have g : (0 : Int) ≤ (i : Int) ∧ (i : Int) < 20 := by omega
    have iL : i < 20 := by omega
    have k1 : ¬ (20 : Int) ≤ (i : Int) := by omega
    have ih := kp_91 d (i + 1) n (pU τ 148 i (τ 87 i)) (by omega) (by omega)
    show (if (20 : Int) ≤ (i : Int) then _ else _) = _
    rw [if_neg k1, if_pos g, if_pos g, Int.toNat_natCast, pw_s iL (by decide), ih, pCp_s (by decide) iL]
theorem un_27 : ∀ (d i fu : Nat) (τ : pS), i + d = 8 → d < fu → f_M_undo_84_p27 fu (i : Int) τ = f_M_undo_84_p53 4096 0 (pCp τ 146 85 i 8)
  | 0, i, fu, τ, hi, hf => by
    obtain ⟨n, rfl⟩ : ∃ n, fu = n + 1 := ⟨fu - 1, by omega⟩
    obtain rfl : i = 8 := by omega
    rw [pCp_e]
    show (if (8 : Int) ≤ ((8 : Nat) : Int) then _ else _) = _
    rw [if_pos (by decide)]
  | d + 1, i, fu, τ, hi, hf => by
    obtain ⟨n, rfl⟩ : ∃ n, fu = n + 1 := ⟨fu - 1, by omega⟩
    have g : (0 : Int) ≤ (i : Int) ∧ (i : Int) < 8 := by omega
    have iL : i < 8 := by omega
    have k1 : ¬ (8 : Int) ≤ (i : Int) := by omega
    have ih := un_27 d (i + 1) n (pU τ 85 i (τ 146 i)) (by omega) (by omega)
    show (if (8 : Int) ≤ (i : Int) then _ else _) = _
    rw [if_neg k1, if_pos g, if_pos g, Int.toNat_natCast, pw_s iL (by decide), ih, pCp_s (by decide) iL]
theorem un_53 : ∀ (d i fu : Nat) (τ : pS), i + d = 64 → d < fu → f_M_undo_84_p53 fu (i : Int) τ = (if ((pCp τ 147 86 i 64) 84 89) = ((pCp τ 147 86 i 64) 84 5) then (f_M_undo_84_p100 4096 0 (pU (pCp τ 147 86 i 64) 84 3 ((pCp τ 147 86 i 64) 84 90))) else (some (1, (pCp τ 147 86 i 64))))
  | 0, i, fu, τ, hi, hf => by
    obtain ⟨n, rfl⟩ : ∃ n, fu = n + 1 := ⟨fu - 1, by omega⟩
    obtain rfl : i = 64 := by omega
    rw [pCp_e]
    show (if (64 : Int) ≤ ((64 : Nat) : Int) then _ else _) = _
    rw [if_pos (by decide)]
  | d + 1, i, fu, τ, hi, hf => by
    obtain ⟨n, rfl⟩ : ∃ n, fu = n + 1 := ⟨fu - 1, by omega⟩
    have g : (0 : Int) ≤ (i : Int) ∧ (i : Int) < 64 := by omega
    have iL : i < 64 := by omega
    have k1 : ¬ (64 : Int) ≤ (i : Int) := by omega
    have ih := un_53 d (i + 1) n (pU τ 86 i (τ 147 i)) (by omega) (by omega)
    show (if (64 : Int) ≤ (i : Int) then _ else _) = _
    rw [if_neg k1, if_pos g, if_pos g, Int.toNat_natCast, pw_s iL (by decide), ih, pCp_s (by decide) iL]
theorem un_100 : ∀ (d i fu : Nat) (τ : pS), i + d = 20 → d < fu → f_M_undo_84_p100 fu (i : Int) τ = some (1, (pCp τ 148 87 i 20))
  | 0, i, fu, τ, hi, hf => by
    obtain ⟨n, rfl⟩ : ∃ n, fu = n + 1 := ⟨fu - 1, by omega⟩
    obtain rfl : i = 20 := by omega
    rw [pCp_e]
    show (if (20 : Int) ≤ ((20 : Nat) : Int) then _ else _) = _
    rw [if_pos (by decide)]
  | d + 1, i, fu, τ, hi, hf => by
    obtain ⟨n, rfl⟩ : ∃ n, fu = n + 1 := ⟨fu - 1, by omega⟩
    have g : (0 : Int) ≤ (i : Int) ∧ (i : Int) < 20 := by omega
    have iL : i < 20 := by omega
    have k1 : ¬ (20 : Int) ≤ (i : Int) := by omega
    have ih := un_100 d (i + 1) n (pU τ 87 i (τ 148 i)) (by omega) (by omega)
    show (if (20 : Int) ≤ (i : Int) then _ else _) = _
    rw [if_neg k1, if_pos g, if_pos g, Int.toNat_natCast, pw_s iL (by decide), ih, pCp_s (by decide) iL]
def wkc (k x : Nat) : Prop := (k = 0 ∧ (x = 9 ∨ x = 10)) ∨ (78 ≤ k ∧ k ≤ 81)
def wkm (k x : Nat) : Prop := (k = 84 ∧ 88 ≤ x ∧ x ≤ 92) ∨ (146 ≤ k ∧ k ≤ 148)
def wuc (k x : Nat) : Prop := (25 ≤ k ∧ k ≤ 27) ∨ (k = 24 ∧ 3 ≤ x ∧ x ≤ 5)
def wum (k x : Nat) : Prop := (85 ≤ k ∧ k ≤ 87) ∨ (k = 84 ∧ (x = 0 ∨ x = 1 ∨ x = 3))
section H6
variable {N : Nat} {σ τ σ' τ' : pS}
theorem w_keep (h : WR N σ τ) : ∃ v σ' τ', f_X_keep_0 σ = some (v, σ') ∧ f_M_keep_84 τ = some (v, τ') ∧ WS N σ τ σ' τ' := by
  obtain ⟨m, rec, hG⟩ := h.2.1.pg
  have hm := hG.le
  have e11 := hG.cm
  obtain ⟨a1, a2, a3, a4, a5, a6, a7, a8⟩ := h
  obtain ⟨s1, s2, s3, s4, s5, s6, s7⟩ := a4
  obtain ⟨σ1, e1⟩ : ∃ s, pU (pU (pU (pKp (pU (pU (pKp (pKp σ 25 79 8) 26 80 64) 78 4 (σ 24 4)) 78 5 (σ 24 5)) 27 81 20) 78 3 (σ 24 3)) 0 9 1) 0 10 0 = s := ⟨_, rfl⟩
  obtain ⟨t0, d0⟩ : ∃ t, pU (pU (pU (pU (pU τ 84 88 1) 84 89 (τ 84 5)) 84 90 (τ 84 3)) 84 91 (τ 84 1)) 84 92 (τ 84 0) = t := ⟨_, rfl⟩
  obtain ⟨τ1, d1⟩ : ∃ t, pCp (pCp (pCp t0 85 146 0 8) 86 147 0 64) 87 148 0 20 = t := ⟨_, rfl⟩
  have f1 : FR wkc σ σ1 := by
    rw [← e1]
    refine FR.tr ?_ (FR.u (by unfold wkc; omega))
    refine FR.tr ?_ (FR.u (by unfold wkc; omega))
    refine FR.tr ?_ (FR.u (by unfold wkc; omega))
    refine FR.tr ?_ (FR.kp (fun x _ => by unfold wkc; omega))
    refine FR.tr ?_ (FR.u (by unfold wkc; omega))
    refine FR.tr ?_ (FR.u (by unfold wkc; omega))
    refine FR.tr ?_ (FR.kp (fun x _ => by unfold wkc; omega))
    exact FR.kp (fun x _ => by unfold wkc; omega)
  have g0 : FR wkm τ t0 := by
    rw [← d0]
    refine FR.tr ?_ (FR.u (by unfold wkm; omega))
    refine FR.tr ?_ (FR.u (by unfold wkm; omega))
    refine FR.tr ?_ (FR.u (by unfold wkm; omega))
    refine FR.tr ?_ (FR.u (by unfold wkm; omega))
    exact FR.u (by unfold wkm; omega)
  have f2 : FR wkm τ τ1 := by
    rw [← d1]
    refine g0.tr ?_
    refine FR.tr ?_ (FR.cp (fun x _ => by unfold wkm; omega))
    refine FR.tr ?_ (FR.cp (fun x _ => by unfold wkm; omega))
    exact FR.cp (fun x _ => by unfold wkm; omega)
  have q84 : ∀ x, τ1 84 x = t0 84 x := fun x => by
    rw [← d1, pCp_o (by decide), pCp_o (by decide), pCp_o (by decide)]
  refine ⟨σ 24 4, σ1, τ1, ?_, ?_, WS.of (f1) (f2) (fun k x z => by unfold wkc at z; omega) (fun k x z => by unfold wkm at z; omega) ⟨a1.q ((f1).eq (fun k x z => by unfold wkc at z; unfold wcT; omega)) ((f2).eq (fun k x z => by unfold wkm at z; unfold wmT; omega)), a2.q ((f1).eq (fun k x z => by unfold wkc at z; unfold wcP; omega)) ((f2).eq (fun k x z => by unfold wkm at z; unfold wmP; omega)), a3.q ((f1).eq (fun k x z => by unfold wkc at z; unfold wcL; omega)) ((f2).eq (fun k x z => by unfold wkm at z; unfold wmL; omega)), SRx.q ⟨s1, s2, s3, s4, s5, s6, s7⟩ (f1.eq (fun k x z => by unfold wkc at z; unfold wcS; omega)) (f2.eq (fun k x z => by unfold wkm at z; unfold wmS; omega)), a5.q ((f1).eq (fun k x z => by unfold wkc at z; unfold wcR; omega)) ((f2).eq (fun k x z => by unfold wkm at z; unfold wmR; omega)), ?_, a7.q ((f1).eq (fun k x z => by unfold wkc at z; unfold wcW; omega)) ((f2).eq (fun k x z => by unfold wkm at z; unfold wmW; omega)), a8.q ((f2).get (by unfold wkm; omega))⟩⟩
  · rw [← e1]
    unfold f_X_keep_0 f_State_copyFrom_78_24 f_State_copyCellsFrom_78_24 f_State_copySetsFrom_78_24
    rfl
  · unfold f_M_keep_84
    rw [d0]
    have k1 : f_M_keep_84_p39 4096 0 t0 = _ := kp_39 8 0 4096 t0 (by omega) (by omega)
    have k2 : f_M_keep_84_p65 4096 0 (pCp t0 85 146 0 8) = _ := kp_65 64 0 4096 _ (by omega) (by omega)
    have k3 : f_M_keep_84_p91 4096 0 (pCp (pCp t0 85 146 0 8) 86 147 0 64) = _ := kp_91 20 0 4096 _ (by omega) (by omega)
    rw [k1, k2, k3, d1, f2.get (by unfold wkm; omega), s7.1]
  · have x9 : σ1 0 9 = 1 := by rw [← e1]; simp [pU]
    have x10 : σ1 0 10 = 0 := by rw [← e1]; simp [pU]
    have y88 : τ1 84 88 = 1 := by rw [q84, ← d0]; simp [pU]
    have y89 : τ1 84 89 = τ 84 5 := by rw [q84, ← d0]; simp [pU]
    have y90 : τ1 84 90 = τ 84 3 := by rw [q84, ← d0]; simp [pU]
    have y91 : τ1 84 91 = τ 84 1 := by rw [q84, ← d0]; simp [pU]
    have y92 : τ1 84 92 = τ 84 0 := by rw [q84, ← d0]; simp [pU]
    have y5 : τ1 84 5 = τ 84 5 := f2.get (by unfold wkm; omega)
    have x11 : σ1 4 11 = σ 4 11 := f1.get (by unfold wkc; omega)
    have x783 : σ1 78 3 = σ 24 3 := by rw [← e1]; simp [pU]
    have x784 : σ1 78 4 = σ 24 4 := by rw [← e1]; simp [pU, pKp]
    have x785 : σ1 78 5 = σ 24 5 := by rw [← e1]; simp [pU, pKp]
    have x81 : ∀ j, j < 20 → σ1 81 j = σ 27 j := fun j hj => by rw [← e1]; simp [pU, pKp, hj]
    have o : ∀ k x, k < 146 → k ≠ 84 → t0 k x = τ k x := fun k x h1 h2 => g0.get (by unfold wkm; omega)
    refine ⟨by rw [x9, y88], fun _ => ⟨fun r hr => ?_, fun x hx => ?_, ?_, ?_, Or.inl ⟨x10, by rw [y89, y5], fun j hj => ?_, fun j hj => ?_, ?_⟩⟩⟩
    · rw [← d1, pCp_o (by decide), pCp_o (by decide), pCp_d (by omega) hr, o 85 r (by decide) (by decide), ← s1 r hr, ← e1]
      simp [pU, pKp, hr]
    · rw [← d1, pCp_o (by decide), pCp_d (by omega) hx, pCp_o (by decide), o 86 x (by decide) (by decide), ← s2 x hx, ← e1]
      simp [pU, pKp, hx]
    · rw [x784, y91]; exact s7
    · rw [x785, y92]; exact s6
    · rw [x11] at hj
      rw [x81 j (by omega), ← d1, pCp_d (by omega) (by omega), pCp_o (by decide), pCp_o (by decide), o 87 j (by decide) (by decide)]
      exact s3 j hj
    · rw [x81 j hj, x11]; exact s4 j hj
    · rw [x783, y90]; exact s5
theorem w_undo (h : WR N σ τ) : ∃ v σ' τ', f_X_undo_0 σ = some (v, σ') ∧ f_M_undo_84 τ = some (v, τ') ∧ WS N σ τ σ' τ' := by
  obtain ⟨m, rec, hG⟩ := h.2.1.pg
  have hm := hG.le
  have e11 := hG.cm
  have hh := h
  obtain ⟨a1, a2, a3, a4, a5, a6, a7, a8⟩ := h
  obtain ⟨k0, k1⟩ := a6
  by_cases z : σ 0 9 = 0
  · refine ⟨0, σ, τ, ?_, ?_, hh.sm⟩
    · unfold f_X_undo_0
      rw [if_pos z]
    · unfold f_M_undo_84
      rw [if_pos (by rw [← k0]; exact z)]
  · obtain ⟨c1, c2, c3, c4, c5⟩ := k1 z
    obtain ⟨s1, s2, s3, s4, s5, s6, s7⟩ := a4
    obtain ⟨σ1, e1⟩ : ∃ s, pU (pU (pKp (pKp σ 79 25 8) 80 26 64) 24 4 (σ 78 4)) 24 5 (σ 78 5) = s := ⟨_, rfl⟩
    obtain ⟨t0, d0⟩ : ∃ t, pU (pU τ 84 1 (τ 84 91)) 84 0 (τ 84 92) = t := ⟨_, rfl⟩
    obtain ⟨t1, d1⟩ : ∃ t, pCp (pCp t0 146 85 0 8) 147 86 0 64 = t := ⟨_, rfl⟩
    have f1 : FR wuc σ σ1 := by
      rw [← e1]
      refine FR.tr ?_ (FR.u (by unfold wuc; omega))
      refine FR.tr ?_ (FR.u (by unfold wuc; omega))
      refine FR.tr ?_ (FR.kp (fun x _ => by unfold wuc; omega))
      exact FR.kp (fun x _ => by unfold wuc; omega)
    have g0 : FR wum τ t0 := by
      rw [← d0]
      refine FR.tr ?_ (FR.u (by unfold wum; omega))
      exact FR.u (by unfold wum; omega)
    have f2 : FR wum τ t1 := by
      rw [← d1]
      refine g0.tr ?_
      refine FR.tr ?_ (FR.cp (fun x _ => by unfold wum; omega))
      exact FR.cp (fun x _ => by unfold wum; omega)
    have q84 : ∀ x, t1 84 x = t0 84 x := fun x => by
      rw [← d1, pCp_o (by decide), pCp_o (by decide)]
    have o : ∀ k x, k ≠ 84 → t0 k x = τ k x := fun k x h2 => by rw [← d0, pU_c _ _ _ _ h2, pU_c _ _ _ _ h2]
    have y1 : t1 84 1 = τ 84 91 := by rw [q84, ← d0]; simp [pU]
    have y0 : t1 84 0 = τ 84 92 := by rw [q84, ← d0]; simp [pU]
    have x4 : σ1 24 4 = σ 78 4 := by rw [← e1]; simp [pU]
    have x5 : σ1 24 5 = σ 78 5 := by rw [← e1]; simp [pU]
    have r1 : ∀ r, r < 8 → σ1 25 r = t1 85 r := fun r hr => by
      rw [← d1, pCp_o (by decide), pCp_d (by omega) hr, o 146 r (by decide), ← c1 r hr, ← e1]
      simp [pU, pKp, hr]
    have r2 : ∀ x, x < 64 → σ1 26 x = t1 86 x := fun x hx => by
      rw [← d1, pCp_d (by omega) hx, pCp_o (by decide), o 147 x (by decide), ← c2 x hx, ← e1]
      simp [pU, pKp, hx]
    have eX : f_X_undo_0 σ = (if σ 0 10 = 0 then some (1, pU (pKp σ1 81 27 20) 24 3 (σ 78 3)) else some (1, σ1)) := by
      unfold f_X_undo_0 f_State_copyCellsFrom_24_78
      rw [if_neg z, e1, Option.bind_some]
      dsimp only
      unfold f_State_copySetsFrom_24_78
      simp only [Option.bind_some, f1.get (show ¬ wuc 0 10 by unfold wuc; omega), f1.get (show ¬ wuc 78 3 by unfold wuc; omega)]
    have eM : f_M_undo_84 τ = (if τ 84 89 = τ 84 5 then some (1, pCp (pU t1 84 3 (τ 84 90)) 148 87 0 20) else some (1, t1)) := by
      unfold f_M_undo_84
      rw [if_neg (by rw [← k0]; exact z), d0]
      have u1 : f_M_undo_84_p27 4096 0 t0 = _ := un_27 8 0 4096 t0 (by omega) (by omega)
      have u2 : f_M_undo_84_p53 4096 0 (pCp t0 146 85 0 8) = _ := un_53 64 0 4096 _ (by omega) (by omega)
      rw [u1, u2, d1]
      have u3 : ∀ s, f_M_undo_84_p100 4096 0 s = some (1, pCp s 148 87 0 20) := fun s => un_100 20 0 4096 s (by omega) (by omega)
      simp only [u3, f2.get (show ¬ wum 84 89 by unfold wum; omega), f2.get (show ¬ wum 84 5 by unfold wum; omega), f2.get (show ¬ wum 84 90 by unfold wum; omega)]
    rw [eX, eM]
    rcases c5 with ⟨n10, n89, u3, u4, u5⟩ | ⟨n10, n89⟩
    · rw [if_pos n10, if_pos n89]
      obtain ⟨σ2, e2⟩ : ∃ s, pU (pKp σ1 81 27 20) 24 3 (σ 78 3) = s := ⟨_, rfl⟩
      obtain ⟨t2, d2⟩ : ∃ t, pCp (pU t1 84 3 (τ 84 90)) 148 87 0 20 = t := ⟨_, rfl⟩
      have h1 : FR wuc σ σ2 := by
        rw [← e2]
        exact (f1.tr (FR.kp (fun x _ => by unfold wuc; omega))).tr (FR.u (by unfold wuc; omega))
      have h2 : FR wum τ t2 := by
        rw [← d2]
        exact (f2.tr (FR.u (by unfold wum; omega))).tr (FR.cp (fun x _ => by unfold wum; omega))
      rw [e2, d2]
      have x27 : ∀ j, j < 20 → σ2 27 j = σ 81 j := fun j hj => by
        rw [← e2, pU_c _ _ _ _ (by decide), pKp_d hj, f1.get (by unfold wuc; omega)]
      refine ⟨1, σ2, t2, rfl, rfl, WS.of (h1) (h2) (fun k x z => by unfold wuc at z; omega) (fun k x z => by unfold wum at z; omega) ⟨a1.q ((h1).eq (fun k x z => by unfold wuc at z; unfold wcT; omega)) ((h2).eq (fun k x z => by unfold wum at z; unfold wmT; omega)), a2.q ((h1).eq (fun k x z => by unfold wuc at z; unfold wcP; omega)) ((h2).eq (fun k x z => by unfold wum at z; unfold wmP; omega)), a3.q ((h1).eq (fun k x z => by unfold wuc at z; unfold wcL; omega)) ((h2).eq (fun k x z => by unfold wum at z; unfold wmL; omega)), ?_, a5.q ((h1).eq (fun k x z => by unfold wuc at z; unfold wcR; omega)) ((h2).eq (fun k x z => by unfold wum at z; unfold wmR; omega)), KPR.q ⟨k0, k1⟩ (h1.eq (fun k x z => by unfold wuc at z; unfold wcK; omega)) (h2.eq (fun k x z => by unfold wum at z; unfold wmK; omega)), a7.q ((h1).eq (fun k x z => by unfold wuc at z; unfold wcW; omega)) ((h2).eq (fun k x z => by unfold wum at z; unfold wmW; omega)), a8.q ((h2).get (by unfold wum; omega))⟩⟩
      refine ⟨fun r hr => ?_, fun x hx => ?_, fun j hj => ?_, fun j hj => ?_, ?_, ?_, ?_⟩
      · rw [← e2, ← d2, pU_c _ _ _ _ (by decide), pKp_o (by decide), pCp_o (by decide), pU_c _ _ _ _ (by decide)]; exact r1 r hr
      · rw [← e2, ← d2, pU_c _ _ _ _ (by decide), pKp_o (by decide), pCp_o (by decide), pU_c _ _ _ _ (by decide)]; exact r2 x hx
      · rw [h1.get (by unfold wuc; omega)] at hj
        rw [x27 j (by omega), ← d2, pCp_d (by omega) (by omega), pU_c _ _ _ _ (by decide), f2.get (by unfold wum; omega)]
        exact u3 j hj
      · rw [x27 j hj, h1.get (k := 4) (by unfold wuc; omega)]; exact u4 j hj
      · rw [← e2, ← d2, pU_s, pCp_o (by decide), pU_s]; exact u5
      · rw [← e2, ← d2, pU_i _ _ _ _ (by decide), pKp_o (by decide), pCp_o (by decide), pU_i _ _ _ _ (by decide), x5, y0]; exact c4
      · rw [← e2, ← d2, pU_i _ _ _ _ (by decide), pKp_o (by decide), pCp_o (by decide), pU_i _ _ _ _ (by decide), x4, y1]; exact c3
    · rw [if_neg n10, if_neg (by omega)]
      refine ⟨1, σ1, t1, rfl, rfl, WS.of (f1) (f2) (fun k x z => by unfold wuc at z; omega) (fun k x z => by unfold wum at z; omega) ⟨a1.q ((f1).eq (fun k x z => by unfold wuc at z; unfold wcT; omega)) ((f2).eq (fun k x z => by unfold wum at z; unfold wmT; omega)), a2.q ((f1).eq (fun k x z => by unfold wuc at z; unfold wcP; omega)) ((f2).eq (fun k x z => by unfold wum at z; unfold wmP; omega)), a3.q ((f1).eq (fun k x z => by unfold wuc at z; unfold wcL; omega)) ((f2).eq (fun k x z => by unfold wum at z; unfold wmL; omega)), ?_, a5.q ((f1).eq (fun k x z => by unfold wuc at z; unfold wcR; omega)) ((f2).eq (fun k x z => by unfold wum at z; unfold wmR; omega)), KPR.q ⟨k0, k1⟩ (f1.eq (fun k x z => by unfold wuc at z; unfold wcK; omega)) (f2.eq (fun k x z => by unfold wum at z; unfold wmK; omega)), a7.q ((f1).eq (fun k x z => by unfold wuc at z; unfold wcW; omega)) ((f2).eq (fun k x z => by unfold wum at z; unfold wmW; omega)), a8.q ((f2).get (by unfold wum; omega))⟩⟩
      have v27 : ∀ j, σ1 27 j = σ 27 j := fun j => by rw [← e1, pU_c _ _ _ _ (by decide), pU_c _ _ _ _ (by decide), pKp_o (by decide), pKp_o (by decide)]
      have v87 : ∀ j, t1 87 j = τ 87 j := fun j => by rw [← d1, pCp_o (by decide), pCp_o (by decide), o 87 j (by decide)]
      refine ⟨r1, r2, fun j hj => ?_, fun j hj => ?_, ?_, ?_, ?_⟩
      · rw [f1.get (by unfold wuc; omega)] at hj
        rw [v27, v87]; exact s3 j hj
      · rw [v27, f1.get (k := 4) (by unfold wuc; omega)]; exact s4 j hj
      · rw [← e1, pU_i _ _ _ _ (by decide), pU_i _ _ _ _ (by decide), pKp_o (by decide), pKp_o (by decide), q84, ← d0, pU_i _ _ _ _ (by decide), pU_i _ _ _ _ (by decide)]; exact s5
      · rw [x5, y0]; exact c4
      · rw [x4, y1]; exact c3
end H6
theorem rn_44 : ∀ (d i fu : Nat) (τ : pS), i + d = 8 → d < fu → f_M_run_84_p44 fu (i : Int) τ = f_M_run_84_p70 4096 0 (pCp τ 130 85 i 8)
  | 0, i, fu, τ, hi, hf => by
    obtain ⟨n, rfl⟩ : ∃ n, fu = n + 1 := ⟨fu - 1, by omega⟩
    obtain rfl : i = 8 := by omega
    rw [pCp_e]
    show (if (8 : Int) ≤ ((8 : Nat) : Int) then _ else _) = _
    rw [if_pos (by decide)]
  | d + 1, i, fu, τ, hi, hf => by
    obtain ⟨n, rfl⟩ : ∃ n, fu = n + 1 := ⟨fu - 1, by omega⟩
    have g : (0 : Int) ≤ (i : Int) ∧ (i : Int) < 8 := by omega
    have iL : i < 8 := by omega
    have k1 : ¬ (8 : Int) ≤ (i : Int) := by omega
    have ih := rn_44 d (i + 1) n (pU τ 85 i (τ 130 i)) (by omega) (by omega)
    show (if (8 : Int) ≤ (i : Int) then _ else _) = _
    rw [if_neg k1, if_pos g, if_pos g, Int.toNat_natCast, pw_s iL (by decide), ih, pCp_s (by decide) iL]
theorem rn_70 : ∀ (d i fu : Nat) (τ : pS), i + d = 64 → d < fu → f_M_run_84_p70 fu (i : Int) τ = f_M_run_84_p101 4096 0 (pU (pCp τ 128 86 i 64) 84 75 1)
  | 0, i, fu, τ, hi, hf => by
    obtain ⟨n, rfl⟩ : ∃ n, fu = n + 1 := ⟨fu - 1, by omega⟩
    obtain rfl : i = 64 := by omega
    rw [pCp_e]
    show (if (64 : Int) ≤ ((64 : Nat) : Int) then _ else _) = _
    rw [if_pos (by decide)]
  | d + 1, i, fu, τ, hi, hf => by
    obtain ⟨n, rfl⟩ : ∃ n, fu = n + 1 := ⟨fu - 1, by omega⟩
    have g : (0 : Int) ≤ (i : Int) ∧ (i : Int) < 64 := by omega
    have iL : i < 64 := by omega
    have k1 : ¬ (64 : Int) ≤ (i : Int) := by omega
    have ih := rn_70 d (i + 1) n (pU τ 86 i (τ 128 i)) (by omega) (by omega)
    show (if (64 : Int) ≤ (i : Int) then _ else _) = _
    rw [if_neg k1, if_pos g, if_pos g, Int.toNat_natCast, pw_s iL (by decide), ih, pCp_s (by decide) iL]
theorem rn_190 : ∀ (d i fu : Nat) (τ : pS), i + d = 80 → d < fu → f_M_run_84_p190 fu (i : Int) τ = some ((pCp τ 124 139 i 80) 84 63, (pCp τ 124 139 i 80))
  | 0, i, fu, τ, hi, hf => by
    obtain ⟨n, rfl⟩ : ∃ n, fu = n + 1 := ⟨fu - 1, by omega⟩
    obtain rfl : i = 80 := by omega
    rw [pCp_e]
    show (if (80 : Int) ≤ ((80 : Nat) : Int) then _ else _) = _
    rw [if_pos (by decide)]
  | d + 1, i, fu, τ, hi, hf => by
    obtain ⟨n, rfl⟩ : ∃ n, fu = n + 1 := ⟨fu - 1, by omega⟩
    have g : (0 : Int) ≤ (i : Int) ∧ (i : Int) < 80 := by omega
    have iL : i < 80 := by omega
    have k1 : ¬ (80 : Int) ≤ (i : Int) := by omega
    have ih := rn_190 d (i + 1) n (pU τ 139 i (τ 124 i)) (by omega) (by omega)
    show (if (80 : Int) ≤ (i : Int) then _ else _) = _
    rw [if_neg k1, if_pos g, if_pos g, Int.toNat_natCast, pw_s iL (by decide), ih, pCp_s (by decide) iL]
def wqs (k x : Nat) : Prop := k = 87 ∨ (k = 84 ∧ x = 3)
/-- sets are put back in the reference -/
theorem psb {m : Nat} (hm : m ≤ 20) : ∀ (d i fu : Nat) (τ : pS), i + d = m → d < fu → τ 84 2 = (m : Int) → ∃ τ', f_M_putsSetsBack_84_p2 fu (i : Int) τ = some (0, τ') ∧ FR wqs τ τ' ∧ (∀ j, i ≤ j → j < m → τ' 87 j = τ 129 j) ∧ (∀ j, j < i → τ' 87 j = τ 87 j) ∧ τ' 84 3 = τ 84 69
  | 0, i, fu, τ, hi, hf, e2 => by
    obtain ⟨n, rfl⟩ : ∃ n, fu = n + 1 := ⟨fu - 1, by omega⟩
    refine ⟨pU τ 84 3 (τ 84 69), ?_, FR.u (by unfold wqs; omega), fun j h1 h2 => by omega, fun j _ => pU_c _ _ _ _ (by decide), pU_s _ _ _ _⟩
    show (if τ 84 2 ≤ (i : Int) then _ else _) = _
    rw [if_pos (by omega)]
  | d + 1, i, fu, τ, hi, hf, e2 => by
    obtain ⟨n, rfl⟩ : ∃ n, fu = n + 1 := ⟨fu - 1, by omega⟩
    have g : (0 : Int) ≤ (i : Int) ∧ (i : Int) < 20 := by omega
    have i20 : i < 20 := by omega
    obtain ⟨τ', q1, q2, q3, q4, q5⟩ := psb hm d (i + 1) n (pU τ 87 i (τ 129 i)) (by omega) (by omega) ((pU_c _ _ _ _ (by decide)).trans e2)
    refine ⟨τ', ?_, (FR.u (P := wqs) (by unfold wqs; omega)).tr q2, fun j h1 h2 => ?_, fun j h1 => ?_, q5.trans (pU_c _ _ _ _ (by decide))⟩
    · show (if τ 84 2 ≤ (i : Int) then _ else _) = _
      rw [if_neg (by omega), if_pos g, if_pos g, Int.toNat_natCast, pw_s i20 (by decide)]
      exact q1
    · by_cases z : j = i
      · rw [z, q4 i (by omega), pU_s]
      · rw [q3 j (by omega) h2, pU_c _ _ _ _ (by decide)]
    · rw [q4 j (by omega), pU_i _ _ _ _ (by omega)]
/-- what is told of a run -/
def tl (τ : pS) (i : Nat) : Int := if i = 0 then τ 84 63 else if i = 1 then τ 84 64 else if i = 2 then τ 84 65 else if i = 3 then τ 84 66 else if i = 4 then τ 84 67 else τ 84 68
theorem m_told (i : Nat) (τ : pS) : f_M_toldOf_84 (i : Int) τ = some (tl τ i, τ) := by
  unfold f_M_toldOf_84 tl
  by_cases h0 : i = 0
  · rw [if_pos h0, if_pos (by omega)]
  rw [if_neg h0, if_neg (by omega)]
  by_cases h1 : i = 1
  · rw [if_pos h1, if_pos (by omega)]
  rw [if_neg h1, if_neg (by omega)]
  by_cases h2 : i = 2
  · rw [if_pos h2, if_pos (by omega)]
  rw [if_neg h2, if_neg (by omega)]
  by_cases h3 : i = 3
  · rw [if_pos h3, if_pos (by omega)]
  rw [if_neg h3, if_neg (by omega)]
  by_cases h4 : i = 4
  · rw [if_pos h4, if_pos (by omega)]
  rw [if_neg h4, if_neg (by omega)]
theorem tl_cg {τ τ' : pS} (h : ∀ x, 63 ≤ x → x ≤ 68 → τ' 84 x = τ 84 x) (i : Nat) : tl τ' i = tl τ i := by
  unfold tl
  rw [h 63 (by decide) (by decide), h 64 (by decide) (by decide), h 65 (by decide) (by decide), h 66 (by decide) (by decide), h 67 (by decide) (by decide), h 68 (by decide) (by decide)]
theorem rn_101 : ∀ (d i fu : Nat) (τ : pS), i + d = 6 → d < fu → ∃ τ', f_M_run_84_p101 fu (i : Int) τ = f_M_run_84_p126 4096 0 τ' ∧ FR (Pk 134) τ τ' ∧ (∀ x, i ≤ x → x < 6 → τ' 134 x = tl τ x) ∧ ∀ x, x < i → τ' 134 x = τ 134 x
  | 0, i, fu, τ, hi, hf => by
    obtain ⟨n, rfl⟩ : ∃ n, fu = n + 1 := ⟨fu - 1, by omega⟩
    refine ⟨τ, ?_, FR.rf _ _, fun x h1 h2 => by omega, fun x _ => rfl⟩
    show (if (6 : Int) ≤ (i : Int) then _ else _) = _
    rw [if_pos (by omega)]
  | d + 1, i, fu, τ, hi, hf => by
    obtain ⟨n, rfl⟩ : ∃ n, fu = n + 1 := ⟨fu - 1, by omega⟩
    have g : (0 : Int) ≤ (i : Int) ∧ (i : Int) < 6 := by omega
    have i6 : i < 6 := by omega
    obtain ⟨τ', q1, q2, q3, q4⟩ := rn_101 d (i + 1) n (pU τ 134 i (tl τ i)) (by omega) (by omega)
    refine ⟨τ', ?_, (FR.u (P := Pk 134) rfl).tr q2, fun x h1 h2 => ?_, fun x h1 => ?_⟩
    · show (if (6 : Int) ≤ (i : Int) then _ else _) = _
      rw [if_neg (by omega), m_told, Option.bind_some]
      dsimp only
      rw [if_pos g, Int.toNat_natCast, pw_s i6 (by decide)]
      exact q1
    · by_cases z : x = i
      · rw [z, q4 i (by omega), pU_s]
      · rw [q3 x (by omega) h2]
        exact tl_cg (fun y _ _ => pU_c _ _ _ _ (by decide)) x
    · rw [q4 x (by omega), pU_i _ _ _ _ (by omega)]
def w126 (k _x : Nat) : Prop := 135 ≤ k ∧ k ≤ 138
theorem rn_126 {m : Nat} (hm : m ≤ 20) : ∀ (d i fu : Nat) (τ : pS), i + d = m → d < fu → τ 84 2 = (m : Int) → ∃ τ', f_M_run_84_p126 fu (i : Int) τ = f_M_run_84_p190 4096 0 τ' ∧ FR w126 τ τ' ∧ (∀ j, i ≤ j → j < m → τ' 135 j = τ 122 j ∧ τ' 136 j = τ 123 j ∧ τ' 137 j = τ 120 j ∧ τ' 138 j = τ 121 j) ∧ ∀ k j, j < i → τ' k j = τ k j
  | 0, i, fu, τ, hi, hf, e2 => by
    obtain ⟨n, rfl⟩ : ∃ n, fu = n + 1 := ⟨fu - 1, by omega⟩
    refine ⟨τ, ?_, FR.rf _ _, fun x h1 h2 => by omega, fun k x _ => rfl⟩
    show (if τ 84 2 ≤ (i : Int) then _ else _) = _
    rw [if_pos (by omega)]
  | d + 1, i, fu, τ, hi, hf, e2 => by
    obtain ⟨n, rfl⟩ : ∃ n, fu = n + 1 := ⟨fu - 1, by omega⟩
    have g : (0 : Int) ≤ (i : Int) ∧ (i : Int) < 20 := by omega
    have i20 : i < 20 := by omega
    obtain ⟨t1, e1⟩ : ∃ t, pU (pU (pU (pU τ 135 i (τ 122 i)) 136 i (τ 123 i)) 137 i (τ 120 i)) 138 i (τ 121 i) = t := ⟨_, rfl⟩
    have f1 : FR w126 τ t1 := by
      rw [← e1]
      exact (((FR.u (by unfold w126; omega)).tr (FR.u (by unfold w126; omega))).tr (FR.u (by unfold w126; omega))).tr (FR.u (by unfold w126; omega))
    obtain ⟨τ', q1, q2, q3, q4⟩ := rn_126 hm d (i + 1) n t1 (by omega) (by omega) ((f1.get (by unfold w126; omega)).trans e2)
    refine ⟨τ', ?_, f1.tr q2, fun j h1 h2 => ?_, fun k j h1 => ?_⟩
    · show (if τ 84 2 ≤ (i : Int) then _ else _) = _
      rw [if_neg (by omega)]
      simp only [if_pos g, Int.toNat_natCast]
      rw [pw_s i20 (by decide), e1]
      exact q1
    · by_cases z : j = i
      · rw [z, q4 _ i (by omega), q4 _ i (by omega), q4 _ i (by omega), q4 _ i (by omega), ← e1]
        simp [pU]
      · have y := q3 j (by omega) h2
        rw [f1.get (k := 122) (by unfold w126; omega), f1.get (k := 123) (by unfold w126; omega), f1.get (k := 120) (by unfold w126; omega), f1.get (k := 121) (by unfold w126; omega)] at y
        exact y
    · rw [q4 k j (by omega), ← e1]
      unfold pU
      rw [if_neg (by omega), if_neg (by omega), if_neg (by omega), if_neg (by omega)]
section H7
variable {N : Nat} {σ τ σ' τ' : pS}
theorem x_can {m : Nat} (e : σ 4 11 = (m : Int)) (a : Int) : f_X_canRun_0 a σ = some (if (1 ≤ a ∧ a ≤ 4) ∧ 0 < m then 1 else 0, σ) := by
  unfold f_X_canRun_0
  rw [e]
  by_cases h1 : a < 1
  · rw [if_pos h1, if_neg (by omega)]
  · rw [if_neg h1]
    by_cases h2 : 4 < a
    · rw [if_pos h2, if_neg (by omega)]
    · rw [if_neg h2]
      by_cases h3 : (m : Int) ≤ 0
      · rw [if_pos h3, if_neg (by omega)]
      · rw [if_neg h3, if_pos (by omega)]
theorem m_can {m : Nat} (e : τ 84 2 = (m : Int)) (a : Int) : f_M_canRun_84 a τ = some (if (1 ≤ a ∧ a ≤ 4) ∧ 0 < m then 1 else 0, τ) := by
  unfold f_M_canRun_84
  rw [m_in, Option.bind_some]
  simp only [e]
  by_cases h1 : 1 ≤ a ∧ a ≤ 4
  · rw [if_pos h1, if_neg (by decide)]
    by_cases h3 : (m : Int) ≤ 0
    · rw [if_pos h3, if_neg (by omega)]
    · rw [if_neg h3, if_pos (by omega)]
  · rw [if_neg h1, if_pos rfl, if_neg (by omega)]
theorem WR.qc (h : WR N σ τ) (h1 : EQc wcA σ σ') : WR N σ' τ := by
  obtain ⟨a1, a2, a3, a4, a5, a6, a7, a8⟩ := h
  exact ⟨a1.q (fun k x z => h1 k x (Or.inl z)) (EQc.rf _ _), a2.q (fun k x z => h1 k x (Or.inr (Or.inl z))) (EQc.rf _ _), a3.q (fun k x z => h1 k x (Or.inr (Or.inr (Or.inl z)))) (EQc.rf _ _), a4.q (fun k x z => h1 k x (Or.inr (Or.inr (Or.inr (Or.inl z))))) (EQc.rf _ _), a5.q (fun k x z => h1 k x (Or.inr (Or.inr (Or.inr (Or.inr (Or.inl z)))))) (EQc.rf _ _), a6.q (fun k x z => h1 k x (Or.inr (Or.inr (Or.inr (Or.inr (Or.inr (Or.inl z))))))) (EQc.rf _ _), a7.q (fun k x z => h1 k x (Or.inr (Or.inr (Or.inr (Or.inr (Or.inr (Or.inr z))))))) (EQc.rf _ _), a8⟩
theorem EQc.sy {K : Nat → Nat → Prop} (h : EQc K σ σ') : EQc K σ' σ := fun k x z => (h k x z).symm
theorem PTn_A (k x : Nat) (h : PTn k x) : ¬ wcA k x := by
  unfold PTn at h
  unfold wcA wcT wcP wcL wcS wcR wcK wcW
  omega
/-- a run in the class, a try in the reference -/
theorem it_ls {m : Nat} {rec : Nat → O8} {w lw : Int} (hlw : lw = 0 ∨ lw = 1) (hG : PG m rec σ τ) (h : WR N σ τ) : ∃ σ' τ', EQc wcA σ σ' ∧ WR N σ' τ' ∧ (XOf σ σ' ∧ MOf τ τ') ∧ ((f_Mach_go_3 w lw σ = some (-5, σ') ∧ f_M_isTried_84 w lw τ = some (0, τ')) ∨ ∃ t, f_Mach_go_3 w lw σ = some (t, σ') ∧ f_M_isTried_84 w lw τ = some (1, τ') ∧ 1 ≤ t ∧ τ' 84 63 = t ∧ (∀ r, r < 8 → σ' 29 r = τ' 130 r) ∧ (∀ x, x < 64 → σ' 30 x = τ' 128 x) ∧ ∀ x, x < 6 → σ' 33 x = tl τ' x) := by
  have hm := hG.le
  have e11 := hG.cm
  obtain ⟨a1, a2, a3, a4, a5, a6, a7, a8⟩ := h
  obtain ⟨mL, cL, RL, hL⟩ := a3.lw
  obtain ⟨hS, hS2⟩ := a4.sr hm e11
  obtain ⟨σ1, τ1, f1, f2, q1, q2, q3, q4⟩ := rn_ls (w := w) hlw hG hS hS2 hL
  have e2 : (pU τ1 84 0 (τ 84 0)) 84 2 = (m : Int) := by rw [pU_i _ _ _ _ (by decide), f2.get (by unfold QTn; omega)]; exact hG.mm
  obtain ⟨τ2, p1, p2, p3, p4, p5⟩ := psb hm m 0 4096 (pU τ1 84 0 (τ 84 0)) (by omega) (by omega) e2
  have p1 : f_M_putsSetsBack_84 (pU τ1 84 0 (τ 84 0)) = some (0, τ2) := p1
  have E1 : EQc wcA σ σ1 := f1.eq PTn_A
  have F2 : FR QTn τ τ2 := (f2.tr (FR.u (by unfold QTn; omega))).tr (p2.mono (fun k x z => by unfold wqs at z; unfold QTn; omega))
  have x0 : τ2 84 0 = τ 84 0 := by rw [p2.get (by unfold wqs; omega), pU_s]
  have x3 : τ2 84 3 = τ 84 3 := by rw [p5, pU_i _ _ _ _ (by decide)]; exact q3
  have x87 : ∀ j, j < m → τ2 87 j = τ 87 j := fun j hj => by rw [p3 j (by omega) hj, pU_c _ _ _ _ (by decide)]; exact q2 j hj
  have o : ∀ k x, ¬ QTn k x → τ2 k x = τ k x := fun k x z => F2.get z
  have hW : WR N σ1 τ2 := by
    refine WR.qc (σ := σ) ?_ E1
    refine ⟨a1.q (EQc.rf _ _) (F2.eq (fun k x z => by unfold QTn at z; unfold wmT; omega)), a2.q (EQc.rf _ _) (F2.eq (fun k x z => by unfold QTn at z; unfold wmP; omega)), a3.q (EQc.rf _ _) (F2.eq (fun k x z => by unfold QTn at z; unfold wmL; omega)), ?_, a5.q (EQc.rf _ _) (F2.eq (fun k x z => by unfold QTn at z; unfold wmR; omega)), a6.q (EQc.rf _ _) (F2.eq (fun k x z => by unfold QTn at z; unfold wmK; omega)), a7.q (EQc.rf _ _) (F2.eq (fun k x z => by unfold QTn at z; unfold wmW; omega)), ?_⟩
    · obtain ⟨s1, s2, s3, s4, s5, s6, s7⟩ := a4
      refine ⟨fun r hr => ?_, fun x hx => ?_, fun j hj => ?_, s4, ?_, ?_, ?_⟩
      · rw [o 85 r (by unfold QTn; omega)]; exact s1 r hr
      · rw [o 86 x (by unfold QTn; omega)]; exact s2 x hx
      · rw [x87 j (by omega)]; exact s3 j hj
      · rw [x3]; exact s5
      · rw [x0]; exact s6
      · rw [o 84 1 (by unfold QTn; omega)]; exact s7
    · unfold CNT at *
      rw [o 84 5 (by unfold QTn; omega)]
      exact a8
  have g12 : ∀ k x, ¬ wqs k x → (k ≠ 84 ∨ x ≠ 0) → τ2 k x = τ1 k x := fun k x z y => by
    rw [p2.get z]
    unfold pU
    rw [if_neg (by omega)]
  refine ⟨σ1, τ2, E1, hW, ⟨XOf.of f1 (fun k x z => by unfold PTn at z; omega), MOf.of F2 (fun k x z => by unfold QTn at z; omega)⟩, ?_⟩
  rcases q4 with ⟨r1, r2, -⟩ | ⟨t, r1, r2, r3⟩
  · refine Or.inl ⟨r1, ?_⟩
    unfold f_M_isTried_84
    rw [r2, Option.bind_some]
    dsimp only
    rw [p1, Option.bind_some, if_pos (by decide)]
  · obtain ⟨-, r4, -, r5, r6, r7, r8, r9, r10⟩ := r3
    refine Or.inr ⟨t, r1, ?_, r8, ?_, fun r hr => ?_, fun x hx => ?_, fun x hx => ?_⟩
    · unfold f_M_isTried_84
      rw [r2, Option.bind_some]
      dsimp only
      rw [p1, Option.bind_some, if_pos (by decide)]
    · rw [g12 84 63 (by unfold wqs; omega) (by omega)]; exact r7
    · rw [g12 130 r (by unfold wqs; omega) (by omega)]; exact r5 r hr
    · rw [g12 128 x (by unfold wqs; omega) (by omega)]; exact r4.me x hx
    · rw [tl_cg (fun y h1 h2 => g12 84 y (by unfold wqs; omega) (by omega)) x]
      unfold tl
      rcases (show x = 0 ∨ x = 1 ∨ x = 2 ∨ x = 3 ∨ x = 4 ∨ x = 5 by omega) with z | z | z | z | z | z
      · subst z; exact r6.trans r7.symm
      · subst z; exact r10
      · subst z; exact r4.cr
      · subst z; exact r4.ca
      · subst z; exact r4.cu
      · subst z; exact r4.cd
theorem w_cautious (a b : Int) (h : WR N σ τ) : ∃ v σ' τ', f_X_cautious_0 a b σ = some (v, σ') ∧ f_M_cautious_84 a b τ = some (v, τ') ∧ WS N σ τ σ' τ' := by
  obtain ⟨m, rec, hG⟩ := h.2.1.pg
  unfold f_X_cautious_0 f_M_cautious_84
  rw [x_can hG.cm, m_can hG.mm, Option.bind_some, Option.bind_some]
  dsimp only
  by_cases g : (1 ≤ a ∧ a ≤ 4) ∧ 0 < m
  · rw [if_pos g, if_neg (show ¬ (1 : Int) = 0 by decide), if_neg (show ¬ (1 : Int) = 0 by decide), m_in, x_isTot, Option.bind_some, Option.bind_some]
    dsimp only
    by_cases gb : 0 ≤ b ∧ b ≤ 5
    · rw [if_pos gb, if_neg (show ¬ (1 : Int) = 0 by decide), if_neg (show ¬ (1 : Int) = 0 by decide)]
      obtain ⟨σ1, τ1, q1, q2, q0, q3⟩ := it_ls (w := a) (Or.inr rfl) hG h
      rcases q3 with ⟨r1, r2⟩ | ⟨t, r1, r2, r3, -, -, -, r4⟩
      · rw [r1, r2, Option.bind_some, Option.bind_some]
        exact ⟨-5, σ1, τ1, rfl, rfl, ⟨q2.mono (by omega), q0⟩⟩
      · obtain ⟨n, rfl⟩ : ∃ n : Nat, b = (n : Int) := ⟨b.toNat, by omega⟩
        rw [r1, r2, Option.bind_some, Option.bind_some]
        dsimp only
        rw [if_neg (show ¬ t = -5 by omega), if_pos (by omega), if_neg (show ¬ (1 : Int) = 0 by decide), m_told, Option.bind_some, Int.toNat_natCast, r4 n (by omega)]
        exact ⟨_, σ1, τ1, rfl, rfl, ⟨q2.mono (by omega), q0⟩⟩
    · rw [if_neg gb, if_pos rfl, if_pos rfl]
      exact ⟨_, _, _, rfl, rfl, h.sm⟩
  · rw [if_neg g, if_pos rfl, if_pos rfl]
    exact ⟨_, _, _, rfl, rfl, h.sm⟩
theorem w_tried (a b : Int) (h : WR N σ τ) (hb1 : -2147483648 ≤ b) (hb2 : b ≤ 2147483647) : ∃ v σ' τ', f_X_tried_0 a b σ = some (v, σ') ∧ f_M_tried_84 a b τ = some (v, τ') ∧ WS N σ τ σ' τ' := by
  obtain ⟨m, rec, hG⟩ := h.2.1.pg
  -- what may be asked
  have hV : ((0 ≤ b ∧ b ≤ 5) ∨ (10 ≤ b ∧ b ≤ 17) ∨ (100 ≤ b ∧ b ≤ 163)) ∨ ¬ ((0 ≤ b ∧ b ≤ 5) ∨ (10 ≤ b ∧ b ≤ 17) ∨ (100 ≤ b ∧ b ≤ 163)) := Classical.em _
  have hc : ∀ s : pS, f_X_isCell (pw (b - 10)) s = some (if 10 ≤ b ∧ b ≤ 17 then 1 else 0, s) := fun s => by
    rw [x_isCell]
    by_cases z : 10 ≤ b ∧ b ≤ 17
    · rw [if_pos z, pw_id (by omega) (by omega), if_pos (by omega)]
    · rw [if_neg z]
      by_cases y : b < -2147483638
      · have e : pw (b - 10) = b - 10 + 4294967296 := by unfold pw; rw [Int.bmod_def]; split <;> omega
        rw [e, if_neg (by omega)]
      · rw [pw_id (by omega) (by omega), if_neg (by omega)]
  have eX : f_X_tried_0 a b σ = (if ((1 ≤ a ∧ a ≤ 4) ∧ 0 < m) ∧ ((0 ≤ b ∧ b ≤ 5) ∨ (10 ≤ b ∧ b ≤ 17) ∨ (100 ≤ b ∧ b ≤ 163)) then f_X_tried_0_p34 a b σ else some (-1, σ)) := by
    unfold f_X_tried_0
    simp only [x_can hG.cm, x_isTot, hc, x_isByte, Option.bind_some]
    by_cases g : (1 ≤ a ∧ a ≤ 4) ∧ 0 < m
    · rw [if_pos g, if_neg (show ¬ (1 : Int) = 0 by decide)]
      by_cases z1 : 0 ≤ b ∧ b ≤ 5
      · rw [if_pos z1, if_neg (show ¬ (1 : Int) = 0 by decide), if_pos ⟨g, Or.inl z1⟩]
      · rw [if_neg z1, if_pos rfl]
        by_cases z2 : 10 ≤ b ∧ b ≤ 17
        · rw [if_pos z2, if_neg (show ¬ (1 : Int) = 0 by decide), if_pos ⟨g, Or.inr (Or.inl z2)⟩]
        · rw [if_neg z2, if_pos rfl]
          by_cases z3 : 100 ≤ b ∧ b ≤ 163
          · rw [if_pos z3, if_neg (show ¬ (1 : Int) = 0 by decide), if_pos ⟨g, Or.inr (Or.inr z3)⟩]
          · rw [if_neg z3, if_pos rfl, if_neg (fun y => y.2.elim z1 (fun y => y.elim z2 z3))]
    · rw [if_neg g, if_pos rfl, if_neg (fun y => g y.1)]
  have eM : f_M_tried_84 a b τ = (if (0 ≤ b ∧ b ≤ 5) ∨ (10 ≤ b ∧ b ≤ 17) ∨ (100 ≤ b ∧ b ≤ 163) then f_M_tried_84_p37 a b 1 τ else f_M_tried_84_p37 a b 0 τ) := by
    unfold f_M_tried_84 f_M_tried_84_p32
    simp only [m_in, Option.bind_some]
    by_cases z1 : 0 ≤ b ∧ b ≤ 5
    · rw [if_pos z1, if_neg (show ¬ (1 : Int) = 0 by decide), if_pos (Or.inl z1)]
    · rw [if_neg z1, if_pos rfl]
      by_cases z2 : 10 ≤ b ∧ b ≤ 17
      · rw [if_pos z2, if_neg (show ¬ (1 : Int) = 0 by decide), if_pos (Or.inr (Or.inl z2))]
      · rw [if_neg z2, if_pos rfl]
        by_cases z3 : 100 ≤ b ∧ b ≤ 163
        · rw [if_pos z3, if_neg (show ¬ (1 : Int) = 0 by decide), if_pos (Or.inr (Or.inr z3))]
        · rw [if_neg z3, if_pos rfl, if_neg (fun y => y.elim z1 (fun y => y.elim z2 z3))]
  rw [eX, eM]
  unfold f_M_tried_84_p37
  simp only [m_can hG.mm, Option.bind_some]
  by_cases g : (1 ≤ a ∧ a ≤ 4) ∧ 0 < m
  · rw [if_pos g]
    simp only [if_neg (show ¬ (1 : Int) = 0 by decide)]
    rcases hV with hV | hV
    · rw [if_pos ⟨g, hV⟩, if_pos hV]
      obtain ⟨σ1, τ1, q1, q2, q0, q3⟩ := it_ls (w := a) (Or.inl rfl) hG h
      have s1 := q2.2.2.2.1.1
      have s2 := q2.2.2.2.1.2.1
      unfold f_X_tried_0_p34
      rcases q3 with ⟨r1, r2⟩ | ⟨t, r1, r2, r3, -, r5, r6, r7⟩
      · rw [r1, r2, Option.bind_some, Option.bind_some]
        dsimp only
        rw [if_pos rfl]
        unfold f_X_tried_0_p53 f_X_tried_0_p75
        simp only [x_isByte, hc, Option.bind_some, if_true]
        rcases hV with z | z | z
        · rw [if_neg (show ¬ (100 ≤ b ∧ b ≤ 163) by omega), if_pos rfl, if_neg (show ¬ (10 ≤ b ∧ b ≤ 17) by omega), if_pos rfl, if_neg (show ¬ 6 ≤ b by omega)]
          exact ⟨_, σ1, τ1, rfl, rfl, ⟨q2.mono (by omega), q0⟩⟩
        · have e : pw (b - 10) = b - 10 := pw_id (by omega) (by omega)
          have g8 : 0 ≤ b - 10 ∧ b - 10 < 8 := by omega
          rw [if_neg (show ¬ (100 ≤ b ∧ b ≤ 163) by omega), if_pos rfl, if_pos z, if_neg (show ¬ (1 : Int) = 0 by decide), e, if_pos g8, if_pos (show 6 ≤ b by omega), if_neg (show ¬ 100 ≤ b by omega), if_pos g8, ← s1 _ (by omega)]
          exact ⟨_, σ1, τ1, rfl, rfl, ⟨q2.mono (by omega), q0⟩⟩
        · have e : pw (b - 100) = b - 100 := pw_id (by omega) (by omega)
          have g8 : 0 ≤ b - 100 ∧ b - 100 < 64 := by omega
          rw [if_pos z, if_neg (show ¬ (1 : Int) = 0 by decide), e, if_pos g8, if_pos (show 6 ≤ b by omega), if_pos (show 100 ≤ b by omega), if_pos g8, ← s2 _ (by omega)]
          exact ⟨_, σ1, τ1, rfl, rfl, ⟨q2.mono (by omega), q0⟩⟩
      · rw [r1, r2, Option.bind_some, Option.bind_some]
        dsimp only
        rw [if_neg (show ¬ t = -5 by omega)]
        unfold f_X_tried_0_p53 f_X_tried_0_p75b
        simp only [x_isByte, hc, Option.bind_some, if_neg (show ¬ (1 : Int) = 0 by decide)]
        rcases hV with z | z | z
        · obtain ⟨n, rfl⟩ : ∃ n : Nat, b = (n : Int) := ⟨b.toNat, by omega⟩
          rw [if_neg (show ¬ (100 ≤ (n : Int) ∧ (n : Int) ≤ 163) by omega), if_pos rfl, if_neg (show ¬ (10 ≤ (n : Int) ∧ (n : Int) ≤ 17) by omega), if_pos rfl, if_pos (show 0 ≤ (n : Int) ∧ (n : Int) < 6 by omega), if_neg (show ¬ 6 ≤ (n : Int) by omega), m_told, Option.bind_some, Int.toNat_natCast, r7 n (by omega)]
          exact ⟨_, σ1, τ1, rfl, rfl, ⟨q2.mono (by omega), q0⟩⟩
        · have e : pw (b - 10) = b - 10 := pw_id (by omega) (by omega)
          have g8 : 0 ≤ b - 10 ∧ b - 10 < 8 := by omega
          rw [if_neg (show ¬ (100 ≤ b ∧ b ≤ 163) by omega), if_pos rfl, if_pos z, if_neg (show ¬ (1 : Int) = 0 by decide), e, if_pos g8, if_pos (show 6 ≤ b by omega), if_neg (show ¬ 100 ≤ b by omega), if_pos g8, ← r5 _ (by omega)]
          exact ⟨_, σ1, τ1, rfl, rfl, ⟨q2.mono (by omega), q0⟩⟩
        · have e : pw (b - 100) = b - 100 := pw_id (by omega) (by omega)
          have g8 : 0 ≤ b - 100 ∧ b - 100 < 64 := by omega
          rw [if_pos z, if_neg (show ¬ (1 : Int) = 0 by decide), e, if_pos g8, if_pos (show 6 ≤ b by omega), if_pos (show 100 ≤ b by omega), if_pos g8, ← r6 _ (by omega)]
          exact ⟨_, σ1, τ1, rfl, rfl, ⟨q2.mono (by omega), q0⟩⟩
    · rw [if_neg (fun y => hV y.2), if_neg hV, if_pos trivial]
      exact ⟨_, _, _, rfl, rfl, h.sm⟩
  · rw [if_neg (fun y => g y.1), if_neg g]
    simp only [if_true]
    have e0 : (if (0 ≤ b ∧ b ≤ 5) ∨ (10 ≤ b ∧ b ≤ 17) ∨ (100 ≤ b ∧ b ≤ 163) then some ((-1 : Int), τ) else some ((-1 : Int), τ)) = some (-1, τ) := by split <;> rfl
    refine ⟨-1, σ, τ, rfl, ?_, h.sm⟩
    exact e0
end H7
def Prc (k x : Nat) : Prop := (25 ≤ k ∧ k ≤ 27) ∨ (k = 24 ∧ 3 ≤ x ∧ x ≤ 5) ∨ (72 ≤ k ∧ k ≤ 77) ∨ (k = 0 ∧ x = 8)
def Qrc (k x : Nat) : Prop := k = 85 ∨ k = 86 ∨ (k = 84 ∧ x = 75) ∨ (134 ≤ k ∧ k ≤ 139)
def PRf (k x : Nat) : Prop := PTn k x ∨ (k = 24 ∧ x = 5)
def PRx (k x : Nat) : Prop := PTn k x ∨ Prc k x
def QRx (k x : Nat) : Prop := QTn k x ∨ Qrc k x ∨ (k = 84 ∧ x = 1)
section H8
variable {N : Nat} {σ τ σ' τ' : pS}
theorem rc_c (σ1 : pS) (t : Int) : ∃ σ2, ((f_State_copyFrom_24_28 σ1).bind fun q5 => ((f_Rep_copyFrom_71_32 (pU q5.2 24 4 (pMin 9999 (pw ((q5.2 24 4) + 1))))).bind fun q6 => (some (t, pU q6.2 0 8 1)))) = some (t, σ2) ∧ FR Prc σ1 σ2 ∧ (∀ r, r < 8 → σ2 25 r = σ1 29 r) ∧ (∀ x, x < 64 → σ2 26 x = σ1 30 x) ∧ (∀ j, j < 20 → σ2 27 j = σ1 31 j) ∧ σ2 24 3 = σ1 28 3 ∧ σ2 24 5 = σ1 28 5 ∧ σ2 24 4 = pMin 9999 (pw (σ1 28 4 + 1)) ∧ (∀ x, x < 6 → σ2 72 x = σ1 33 x) ∧ (∀ j, j < 20 → σ2 73 j = σ1 34 j ∧ σ2 74 j = σ1 35 j ∧ σ2 75 j = σ1 36 j ∧ σ2 76 j = σ1 37 j) ∧ (∀ j, j < 80 → σ2 77 j = σ1 38 j) ∧ σ2 0 8 = 1 := by
  obtain ⟨s1, e1⟩ : ∃ s, pU (pKp (pU (pU (pKp (pKp σ1 29 25 8) 30 26 64) 24 4 (σ1 28 4)) 24 5 (σ1 28 5)) 31 27 20) 24 3 (σ1 28 3) = s := ⟨_, rfl⟩
  have c1 : f_State_copyFrom_24_28 σ1 = some (0, s1) := by
    rw [← e1]
    unfold f_State_copyFrom_24_28 f_State_copyCellsFrom_24_28 f_State_copySetsFrom_24_28
    rfl
  have f1 : FR Prc σ1 s1 := by
    rw [← e1]
    refine FR.tr ?_ (FR.u (by unfold Prc; omega))
    refine FR.tr ?_ (FR.kp (fun x _ => by unfold Prc; omega))
    refine FR.tr ?_ (FR.u (by unfold Prc; omega))
    refine FR.tr ?_ (FR.u (by unfold Prc; omega))
    refine FR.tr ?_ (FR.kp (fun x _ => by unfold Prc; omega))
    exact FR.kp (fun x _ => by unfold Prc; omega)
  have x4 : s1 24 4 = σ1 28 4 := by rw [← e1]; simp [pU, pKp]
  obtain ⟨s2, e2⟩ : ∃ s, pU (pKp (pKp (pKp (pKp (pKp (pKp (pU s1 24 4 (pMin 9999 (pw (σ1 28 4 + 1)))) 33 72 6) 34 73 20) 35 74 20) 36 75 20) 37 76 20) 38 77 80) 0 8 1 = s := ⟨_, rfl⟩
  have f2 : FR Prc s1 s2 := by
    rw [← e2]
    refine FR.tr ?_ (FR.u (by unfold Prc; omega))
    refine FR.tr ?_ (FR.kp (fun x _ => by unfold Prc; omega))
    refine FR.tr ?_ (FR.kp (fun x _ => by unfold Prc; omega))
    refine FR.tr ?_ (FR.kp (fun x _ => by unfold Prc; omega))
    refine FR.tr ?_ (FR.kp (fun x _ => by unfold Prc; omega))
    refine FR.tr ?_ (FR.kp (fun x _ => by unfold Prc; omega))
    refine FR.tr ?_ (FR.kp (fun x _ => by unfold Prc; omega))
    exact FR.u (by unfold Prc; omega)
  have z : ∀ k x, (25 ≤ k ∧ k ≤ 27) ∨ (k = 24 ∧ x ≠ 4) → s2 k x = s1 k x := fun k x h => by
    rw [← e2, pU_c _ _ _ _ (by omega), pKp_o (by omega), pKp_o (by omega), pKp_o (by omega), pKp_o (by omega), pKp_o (by omega), pKp_o (by omega)]
    unfold pU
    rw [if_neg (by omega)]
  have y : ∀ k x, 33 ≤ k → k ≤ 38 → s1 k x = σ1 k x := fun k x h1 h2 => f1.get (by unfold Prc; omega)
  refine ⟨s2, ?_, f1.tr f2, fun r hr => ?_, fun x hx => ?_, fun j hj => ?_, ?_, ?_, ?_, fun x hx => ?_, fun j hj => ⟨?_, ?_, ?_, ?_⟩, fun j hj => ?_, ?_⟩
  · rw [c1, Option.bind_some]
    dsimp only
    rw [x4, ← e2]
    unfold f_Rep_copyFrom_71_32
    rfl
  · rw [z _ _ (by omega), ← e1]; simp [pU, pKp, hr]
  · rw [z _ _ (by omega), ← e1]; simp [pU, pKp, hx]
  · rw [z _ _ (by omega), ← e1]; simp [pU, pKp, hj]
  · rw [z _ _ (by omega), ← e1]; simp [pU, pKp]
  · rw [z _ _ (by omega), ← e1]; simp [pU, pKp]
  · rw [← e2]; simp [pU, pKp]
  · rw [← e2]; simp [pU, pKp, hx, y]
  · rw [← e2]; simp [pU, pKp, hj, y]
  · rw [← e2]; simp [pU, pKp, hj, y]
  · rw [← e2]; simp [pU, pKp, hj, y]
  · rw [← e2]; simp [pU, pKp, hj, y]
  · rw [← e2]; simp [pU, pKp, hj, y]
  · rw [← e2]; simp [pU]
theorem rc_m {m : Nat} (hm : m ≤ 20) (τ1 : pS) (h2 : τ1 84 2 = (m : Int)) : ∃ τ2, f_M_run_84_p44 4096 0 τ1 = some (τ1 84 63, τ2) ∧ FR Qrc τ1 τ2 ∧ (∀ r, r < 8 → τ2 85 r = τ1 130 r) ∧ (∀ x, x < 64 → τ2 86 x = τ1 128 x) ∧ τ2 84 75 = 1 ∧ (∀ x, x < 6 → τ2 134 x = tl τ1 x) ∧ (∀ j, j < m → τ2 135 j = τ1 122 j ∧ τ2 136 j = τ1 123 j ∧ τ2 137 j = τ1 120 j ∧ τ2 138 j = τ1 121 j) ∧ ∀ x, x < 80 → τ2 139 x = τ1 124 x := by
  have k1 : f_M_run_84_p44 4096 0 τ1 = f_M_run_84_p70 4096 0 (pCp τ1 130 85 0 8) := rn_44 8 0 4096 τ1 (by omega) (by omega)
  obtain ⟨t2, e2⟩ : ∃ t, pU (pCp (pCp τ1 130 85 0 8) 128 86 0 64) 84 75 1 = t := ⟨_, rfl⟩
  have k2 : f_M_run_84_p70 4096 0 (pCp τ1 130 85 0 8) = f_M_run_84_p101 4096 0 t2 := by rw [← e2]; exact rn_70 64 0 4096 _ (by omega) (by omega)
  have f2 : FR Qrc τ1 t2 := by
    rw [← e2]
    refine FR.tr ?_ (FR.u (by unfold Qrc; omega))
    refine FR.tr ?_ (FR.cp (fun x _ => by unfold Qrc; omega))
    exact FR.cp (fun x _ => by unfold Qrc; omega)
  obtain ⟨t3, k3, f3, v3, -⟩ := rn_101 6 0 4096 t2 (by omega) (by omega)
  have k3 : f_M_run_84_p101 4096 0 t2 = f_M_run_84_p126 4096 0 t3 := k3
  obtain ⟨t4, k4, f4, v4, -⟩ := rn_126 hm m 0 4096 t3 (by omega) (by omega) (by rw [f3.get (by unfold Pk; omega), f2.get (by unfold Qrc; omega)]; exact h2)
  have k4 : f_M_run_84_p126 4096 0 t3 = f_M_run_84_p190 4096 0 t4 := k4
  have k5 : f_M_run_84_p190 4096 0 t4 = some ((pCp t4 124 139 0 80) 84 63, pCp t4 124 139 0 80) := rn_190 80 0 4096 t4 (by omega) (by omega)
  have y : ∀ k x, 120 ≤ k → k ≤ 130 → t3 k x = τ1 k x := fun k x h1 h2 => by rw [f3.get (by unfold Pk; omega), f2.get (by unfold Qrc; omega)]
  have lo : ∀ k x, k < 134 → (pCp t4 124 139 0 80) k x = t2 k x := fun k x h => by rw [pCp_o (by omega), f4.get (by unfold w126; omega), f3.get (by unfold Pk; omega)]
  refine ⟨pCp t4 124 139 0 80, ?_, ?_, fun r hr => ?_, fun x hx => ?_, ?_, fun x hx => ?_, fun j hj => ?_, fun x hx => ?_⟩
  · rw [k1, k2, k3, k4, k5, lo _ _ (by decide), f2.get (by unfold Qrc; omega)]
  · refine f2.tr ((f3.mono (fun k x h => by unfold Pk at h; unfold Qrc; omega)).tr ((f4.mono (fun k x h => by unfold w126 at h; unfold Qrc; omega)).tr (FR.cp (fun x _ => by unfold Qrc; omega))))
  · rw [lo _ _ (by decide), ← e2, pU_c _ _ _ _ (by decide), pCp_o (by decide), pCp_d (by omega) hr]
  · rw [lo _ _ (by decide), ← e2, pU_c _ _ _ _ (by decide), pCp_d (by omega) hx, pCp_o (by decide)]
  · rw [lo _ _ (by decide), ← e2, pU_s]
  · rw [pCp_o (by decide), f4.get (by unfold w126; omega), v3 x (by omega) hx]
    exact tl_cg (fun z h1 h2 => f2.get (by unfold Qrc; omega)) x
  · have z := v4 j (by omega) hj
    rw [y _ _ (by decide) (by decide), y _ _ (by decide) (by decide), y _ _ (by decide) (by decide), y _ _ (by decide) (by decide)] at z
    rw [pCp_o (by decide), pCp_o (by decide), pCp_o (by decide), pCp_o (by decide)]
    exact z
  · rw [pCp_d (by omega) hx, f4.get (by unfold w126; omega), y _ _ (by decide) (by decide)]
theorem w_run (a : Int) (h : WR N σ τ) : ∃ v σ' τ', f_X_run_0 a σ = some (v, σ') ∧ f_M_run_84 a τ = some (v, τ') ∧ WS N σ τ σ' τ' := by
  obtain ⟨m, rec, hG⟩ := h.2.1.pg
  have hm := hG.le
  have e11 := hG.cm
  unfold f_X_run_0 f_M_run_84
  rw [x_can hG.cm, m_can hG.mm, Option.bind_some, Option.bind_some]
  dsimp only
  by_cases g : (1 ≤ a ∧ a ≤ 4) ∧ 0 < m
  · rw [if_pos g, if_neg (show ¬ (1 : Int) = 0 by decide), if_neg (show ¬ (1 : Int) = 0 by decide)]
    obtain ⟨a1, a2, a3, a4, a5, a6, a7, a8⟩ := h
    obtain ⟨mL, cL, RL, hL⟩ := a3.lw
    obtain ⟨hS, hS2⟩ := a4.sr hm e11
    obtain ⟨σ1, τ1, f1, f2, q1, q2, q3, q4⟩ := rn_ls (w := a) (Or.inl rfl) hG hS hS2 hL
    obtain ⟨s1, s2, s3, s4, s5, s6, s7⟩ := a4
    have x11 : σ1 4 11 = σ 4 11 := f1.get (by unfold PTn; omega)
    rcases q4 with ⟨r1, r2, x1, x2, x3⟩ | ⟨t, r1, r2, r3⟩
    · obtain ⟨τ2, p1, p2, p3, -, p5⟩ := psb hm m 0 4096 τ1 (by omega) (by omega) ((f2.get (by unfold QTn; omega)).trans hG.mm)
      have p1 : f_M_putsSetsBack_84 τ1 = some (0, τ2) := p1
      have F1 : FR PRf σ (pU σ1 24 5 (σ1 28 5)) := (f1.mono (fun k x z => Or.inl z)).tr (FR.u (Or.inr ⟨rfl, rfl⟩))
      have F2 : FR QTn τ τ2 := f2.tr (p2.mono (fun k x z => by unfold wqs at z; unfold QTn; omega))
      rw [r1, r2, Option.bind_some, Option.bind_some]
      dsimp only
      rw [if_pos rfl, if_pos rfl, p1, Option.bind_some]
      refine ⟨-5, _, τ2, rfl, rfl, WS.of (F1) (F2) (fun k x z => by unfold PRf PTn at z; omega) (fun k x z => by unfold QTn at z; omega) ⟨a1.q ((F1).eq (fun k x z => by unfold PRf PTn at z; unfold wcT; omega)) ((F2).eq (fun k x z => by unfold QTn at z; unfold wmT; omega)), a2.q ((F1).eq (fun k x z => by unfold PRf PTn at z; unfold wcP; omega)) ((F2).eq (fun k x z => by unfold QTn at z; unfold wmP; omega)), a3.q ((F1).eq (fun k x z => by unfold PRf PTn at z; unfold wcL; omega)) ((F2).eq (fun k x z => by unfold QTn at z; unfold wmL; omega)), ?_, a5.q ((F1).eq (fun k x z => by unfold PRf PTn at z; unfold wcR; omega)) ((F2).eq (fun k x z => by unfold QTn at z; unfold wmR; omega)), a6.q ((F1).eq (fun k x z => by unfold PRf PTn at z; unfold wcK; omega)) ((F2).eq (fun k x z => by unfold QTn at z; unfold wmK; omega)), a7.q ((F1).eq (fun k x z => by unfold PRf PTn at z; unfold wcW; omega)) ((F2).eq (fun k x z => by unfold QTn at z; unfold wmW; omega)), a8.q ((F2).get (by unfold QTn; omega))⟩⟩
      have c : ∀ k x, (k ≠ 24 ∨ x ≠ 5) → ¬ PTn k x → pU σ1 24 5 (σ1 28 5) k x = σ k x := fun k x z y => by
        rw [← f1.get y]
        unfold pU
        rw [if_neg (by omega)]
      have d : ∀ k x, ¬ QTn k x → τ2 k x = τ k x := fun k x y => by rw [p2.get (by unfold QTn at y; unfold wqs; omega), f2.get y]
      refine ⟨fun r hr => ?_, fun x hx => ?_, fun j hj => ?_, fun j hj => ?_, ?_, ?_, ?_⟩
      · rw [c 25 r (by omega) (by unfold PTn; omega), d 85 r (by unfold QTn; omega)]; exact s1 r hr
      · rw [c 26 x (by omega) (by unfold PTn; omega), d 86 x (by unfold QTn; omega)]; exact s2 x hx
      · rw [c 4 11 (by omega) (by unfold PTn; omega)] at hj
        rw [c 27 j (by omega) (by unfold PTn; omega), p3 j (by omega) (by omega), q2 j (by omega)]; exact s3 j hj
      · rw [c 27 j (by omega) (by unfold PTn; omega), c 4 11 (by omega) (by unfold PTn; omega)]; exact s4 j hj
      · rw [c 24 3 (by omega) (by unfold PTn; omega), p5, q3]; exact s5
      · rw [pU_s, p2.get (by unfold wqs; omega), x1]; exact ⟨rfl, x2, x3⟩
      · rw [c 24 4 (by omega) (by unfold PTn; omega), d 84 1 (by unfold QTn; omega)]; exact s7
    · obtain ⟨-, RMx, -, rE, r6, r7, r8, r9, r10⟩ := r3
      have hr28 : σ1 28 4 = σ 24 4 := q1
      have y1 : τ1 84 1 = τ 84 1 := f2.get (by unfold QTn; omega)
      obtain ⟨y, hy1, hy2, hy3⟩ : ∃ y : Int, pMin 9999 (pw (σ1 28 4 + 1)) = y ∧ f_M_min 9999 (pw (τ1 84 1 + 1)) τ1 = some (y, τ1) ∧ 0 ≤ y ∧ y ≤ 9999 := by
        rw [y1, hr28, ← s7.1, pw_id (by omega) (by omega)]
        unfold f_M_min pMin
        by_cases z : σ 24 4 + 1 ≤ 9999
        · rw [if_pos z]
          refine ⟨σ 24 4 + 1, ?_, rfl, by omega, z⟩
          by_cases z2 : σ 24 4 + 1 < 9999
          · rw [if_pos z2]
          · rw [if_neg z2]; omega
        · rw [if_neg z, if_neg (by omega)]
          exact ⟨9999, rfl, rfl, by omega, by omega⟩
      obtain ⟨σ2, c1, c2, c3, c4, c5, c6, c7, c8, c9, c10, c11, c12⟩ := rc_c σ1 t
      obtain ⟨t1, e1⟩ : ∃ u, pU τ1 84 1 y = u := ⟨_, rfl⟩
      have v : ∀ k x, (k ≠ 84 ∨ x ≠ 1) → t1 k x = τ1 k x := fun k x z => by
        rw [← e1]
        unfold pU
        rw [if_neg (by omega)]
      obtain ⟨τ2, d1, d2, d3, d4, d5, d6, d7, d8⟩ := rc_m hm t1 (by rw [v _ _ (by omega), f2.get (by unfold QTn; omega)]; exact hG.mm)
      have F1 : FR PRx σ σ2 := (f1.mono (fun k x z => Or.inl z)).tr (c2.mono (fun k x z => Or.inr z))
      have F2 : FR QRx τ τ2 := ((f2.mono (fun k x z => Or.inl z)).tr (by rw [← e1]; exact FR.u (Or.inr (Or.inr ⟨rfl, rfl⟩)))).tr (d2.mono (fun k x z => Or.inr (Or.inl z)))
      rw [r1, r2, Option.bind_some, Option.bind_some]
      dsimp only
      rw [if_neg (show ¬ t = -5 by omega), c1, if_neg (show ¬ (1 : Int) = 0 by decide), hy2, Option.bind_some]
      dsimp only
      rw [e1, d1, v 84 63 (by omega), r7]
      have z11 : σ2 4 11 = σ 4 11 := F1.get (by unfold PRx PTn Prc; omega)
      have z5 : ∀ j, σ2 5 j = σ 5 j := fun j => F1.get (by unfold PRx PTn Prc; omega)
      have z7 : ∀ j, σ2 7 j = σ 7 j := fun j => F1.get (by unfold PRx PTn Prc; omega)
      have u5 : ∀ j, σ1 5 j = σ 5 j := fun j => f1.get (by unfold PTn; omega)
      have u7 : ∀ j, σ1 7 j = σ 7 j := fun j => f1.get (by unfold PTn; omega)
      refine ⟨t, σ2, τ2, rfl, rfl, WS.of (F1) (F2) (fun k x z => by unfold PRx PTn Prc at z; omega) (fun k x z => by unfold QRx QTn Qrc at z; omega) ⟨a1.q ((F1).eq (fun k x z => by unfold PRx PTn Prc at z; unfold wcT; omega)) ((F2).eq (fun k x z => by unfold QRx QTn Qrc at z; unfold wmT; omega)), a2.q ((F1).eq (fun k x z => by unfold PRx PTn Prc at z; unfold wcP; omega)) ((F2).eq (fun k x z => by unfold QRx QTn Qrc at z; unfold wmP; omega)), a3.q ((F1).eq (fun k x z => by unfold PRx PTn Prc at z; unfold wcL; omega)) ((F2).eq (fun k x z => by unfold QRx QTn Qrc at z; unfold wmL; omega)), ?_, ?_, a6.q ((F1).eq (fun k x z => by unfold PRx PTn Prc at z; unfold wcK; omega)) ((F2).eq (fun k x z => by unfold QRx QTn Qrc at z; unfold wmK; omega)), a7.q ((F1).eq (fun k x z => by unfold PRx PTn Prc at z; unfold wcW; omega)) ((F2).eq (fun k x z => by unfold QRx QTn Qrc at z; unfold wmW; omega)), a8.q ((F2).get (by unfold QRx QTn Qrc; omega))⟩⟩
      · refine ⟨fun r hr => ?_, fun x hx => ?_, fun j hj => ?_, fun j hj => ?_, ?_, ?_, ?_⟩
        · rw [c3 r hr, d3 r hr, v _ _ (by omega)]; exact rE r hr
        · rw [c4 x hx, d4 x hx, v _ _ (by omega)]; exact RMx.me x hx
        · rw [z11] at hj
          rw [c5 j (by omega), d2.get (by unfold Qrc; omega), v _ _ (by omega)]; exact (RMx.se j (by omega)).1
        · rw [c5 j hj, z11]
          by_cases k : j < m
          · have q := RMx.se j k
            exact ⟨q.2.1, q.2.2, fun _ => by omega⟩
          · have q := RMx.sh j (by omega) hj
            rw [q]
            exact ⟨by decide, by decide, fun _ => rfl⟩
        · rw [c6, d2.get (by unfold Qrc; omega), v _ _ (by omega)]; exact RMx.ns
        · rw [c7, d2.get (by unfold Qrc; omega), v _ _ (by omega)]; exact RMx.x
        · rw [c8, hy1, d2.get (by unfold Qrc; omega), ← e1, pU_s]; exact ⟨rfl, hy3⟩
      · refine ⟨by rw [c12, d5], fun _ => ⟨by rw [z11]; omega, fun x hx => ?_, fun j hj => ?_⟩⟩
        · rw [c9 x hx, d6 x hx, tl_cg (fun q h1 h2 => v 84 q (by omega)) x]
          unfold tl
          rcases (show x = 0 ∨ x = 1 ∨ x = 2 ∨ x = 3 ∨ x = 4 ∨ x = 5 by omega) with z | z | z | z | z | z
          · subst z; exact r6.trans r7.symm
          · subst z; exact r10
          · subst z; exact RMx.cr
          · subst z; exact RMx.ca
          · subst z; exact RMx.cu
          · subst z; exact RMx.cd
        · rw [z11] at hj
          have hj' : j < m := by omega
          have h20 : j < 20 := by omega
          obtain ⟨b1, b2, b3, b4⟩ := c10 j h20
          obtain ⟨b5, b6, b7, b8⟩ := d7 j hj'
          obtain ⟨va1, va2, va3, va4⟩ := RMx.va j hj' trivial
          rw [b1, b2, b3, b4, b5, b6, b7, b8, v _ _ (by omega), v _ _ (by omega), v _ _ (by omega), v _ _ (by omega), z5, z7]
          refine ⟨va2, RMx.rp j hj', va1, fun k => va3 (by rw [u5]; exact k), fun k e he => ?_⟩
          have sz := hG.sz hj' (by omega)
          have h80 : 4 * j + e < 80 := by omega
          rw [c11 _ h80, d8 _ h80, v _ _ (by omega)]
          exact va4 (by rw [u5]; exact k) e (by rw [u7]; exact he)
  · rw [if_neg g, if_pos rfl, if_pos rfl]
    exact ⟨_, _, _, rfl, rfl, h.sm⟩
end H8
section H9
variable {N : Nat} {σ τ σ' τ' : pS}
/-- what a run so wide answers from now, in any state of the same parts -/
theorem fs_t {m : Nat} {rec : Nat → O8} (w : Int) (hG : PG m rec σ τ) (h : WR N σ τ) : ∃ t : Int, (t = -5 ∨ 1 ≤ t) ∧ (∀ σ1, EQc wcA σ σ1 ∧ XOf σ σ1 → ∃ σ2, f_Mach_go_3 w 0 σ1 = some (t, σ2) ∧ (EQc wcA σ σ2 ∧ XOf σ σ2)) ∧ ∀ τ1, WR N σ τ1 ∧ MOf τ τ1 → ∃ b τ2, f_M_isTried_84 w 0 τ1 = some (b, τ2) ∧ (WR N σ τ2 ∧ MOf τ τ2) ∧ ((t = -5 ∧ b = 0) ∨ (t ≠ -5 ∧ b ≠ 0 ∧ τ2 84 63 = t)) := by
  obtain ⟨σa, τa, p1, p2, -, p3⟩ := it_ls (w := w) (Or.inl rfl) hG h
  have key : ∃ t b : Int, (t = -5 ∨ 1 ≤ t) ∧ f_Mach_go_3 w 0 σ = some (t, σa) ∧ f_M_isTried_84 w 0 τ = some (b, τa) ∧ ((t = -5 ∧ b = 0) ∨ (t ≠ -5 ∧ b ≠ 0 ∧ τa 84 63 = t)) := by
    rcases p3 with ⟨r1, r2⟩ | ⟨t, r1, r2, r3, r4, -⟩
    · exact ⟨-5, 0, Or.inl rfl, r1, r2, Or.inl ⟨rfl, rfl⟩⟩
    · exact ⟨t, 1, Or.inr r3, r1, r2, Or.inr ⟨by omega, by decide, r4⟩⟩
  obtain ⟨t, b, k0, k1, k2, k3⟩ := key
  refine ⟨t, k0, fun σ1 h1 => ?_, fun τ1 h1 => ?_⟩
  · have h2 := h.qc h1.1
    obtain ⟨m1, rec1, hG1⟩ := h2.2.1.pg
    obtain ⟨σb, τb, q1, q2, q0, q3⟩ := it_ls (w := w) (Or.inl rfl) hG1 h2
    have hW : EQc wcA σ σb ∧ XOf σ σb := ⟨fun k x z => (q1 k x z).trans (h1.1 k x z), fun k x y z => (q0.1 k x y z).trans (h1.2 k x y z)⟩
    rcases q3 with ⟨r1, r2⟩ | ⟨t', r1, r2, r3, r4, -⟩
    · have e := Option.some.inj (k2.symm.trans r2)
      have eb : b = 0 := congrArg Prod.fst e
      rcases k3 with ⟨z, -⟩ | ⟨-, z, -⟩
      · exact ⟨σb, by rw [r1, z], hW⟩
      · exact absurd eb z
    · have e := Option.some.inj (k2.symm.trans r2)
      have eb : b = 1 := congrArg Prod.fst e
      have es : τa = τb := congrArg Prod.snd e
      rcases k3 with ⟨-, z⟩ | ⟨-, -, z⟩
      · omega
      · rw [es, r4] at z
        exact ⟨σb, by rw [r1, z], hW⟩
  · obtain ⟨m1, rec1, hG1⟩ := h1.1.2.1.pg
    obtain ⟨σb, τb, q1, q2, q0, q3⟩ := it_ls (w := w) (Or.inl rfl) hG1 h1.1
    have hW : WR N σ τb ∧ MOf τ τb := ⟨q2.qc (EQc.sy q1), fun k x y => (q0.2 k x y).trans (h1.2 k x y)⟩
    rcases q3 with ⟨r1, r2⟩ | ⟨t', r1, r2, r3, r4, -⟩
    · have e := Option.some.inj (k1.symm.trans r1)
      have et : t = -5 := congrArg Prod.fst e
      exact ⟨0, τb, r2, hW, Or.inl ⟨et, rfl⟩⟩
    · have e := Option.some.inj (k1.symm.trans r1)
      have et : t = t' := congrArg Prod.fst e
      exact ⟨1, τb, r2, hW, Or.inr ⟨by omega, by decide, by rw [et]; exact r4⟩⟩
/-- a step of the class's best -/
def bX (w t b c b' c' : Int) : Prop := (t = -5 ∧ b' = b ∧ c' = c) ∨ (t ≠ -5 ∧ b = -5 ∧ b' = t ∧ c' = w) ∨ (t ≠ -5 ∧ b ≠ -5 ∧ b ≤ t ∧ b' = b ∧ c' = c) ∨ (t ≠ -5 ∧ b ≠ -5 ∧ t < b ∧ b' = t ∧ c' = w)
/-- a step of the reference's -/
def bM (w t c b c' b' : Int) : Prop := (t = -5 ∧ b' = b ∧ c' = c) ∨ (t ≠ -5 ∧ c = -5 ∧ b' = t ∧ c' = w) ∨ (t ≠ -5 ∧ c ≠ -5 ∧ t ≤ b ∧ b' = t ∧ c' = w) ∨ (t ≠ -5 ∧ c ≠ -5 ∧ b < t ∧ b' = b ∧ c' = c)
theorem fX_st {w : Nat} (hw : w ≤ 4) {t : Int} (hT : ∀ σ1, EQc wcA σ σ1 ∧ XOf σ σ1 → ∃ σ2, f_Mach_go_3 (w : Int) 0 σ1 = some (t, σ2) ∧ (EQc wcA σ σ2 ∧ XOf σ σ2)) (n : Nat) (a b c : Int) {σ1 : pS} (h : EQc wcA σ σ1 ∧ XOf σ σ1) : ∃ σ2 b' c', f_X_fastest_0_p33 (n + 1) a b c (w : Int) σ1 = f_X_fastest_0_p33 n a b' c' ((w + 1 : Nat) : Int) σ2 ∧ bX (w : Int) t b c b' c' ∧ (EQc wcA σ σ2 ∧ XOf σ σ2) := by
  obtain ⟨σ2, q1, q2⟩ := hT σ1 h
  have e : f_X_fastest_0_p33 (n + 1) a b c (w : Int) σ1 = (if t = -5 then f_X_fastest_0_p33 n a b c ((w + 1 : Nat) : Int) σ2 else (if b = -5 then f_X_fastest_0_p33 n a t (w : Int) ((w + 1 : Nat) : Int) σ2 else (if b ≤ t then f_X_fastest_0_p33 n a b c ((w + 1 : Nat) : Int) σ2 else f_X_fastest_0_p33 n a t (w : Int) ((w + 1 : Nat) : Int) σ2))) := by
    show (if (4 : Int) < (w : Int) then _ else _) = _
    rw [if_neg (by omega), q1, Option.bind_some, pw_s (show w < 5 by omega) (by decide)]
  rw [e]
  by_cases z : t = -5
  · rw [if_pos z]
    exact ⟨σ2, b, c, rfl, Or.inl ⟨z, rfl, rfl⟩, q2⟩
  rw [if_neg z]
  by_cases z2 : b = -5
  · rw [if_pos z2]
    exact ⟨σ2, t, _, rfl, Or.inr (Or.inl ⟨z, z2, rfl, rfl⟩), q2⟩
  rw [if_neg z2]
  by_cases z3 : b ≤ t
  · rw [if_pos z3]
    exact ⟨σ2, b, c, rfl, Or.inr (Or.inr (Or.inl ⟨z, z2, z3, rfl, rfl⟩)), q2⟩
  · rw [if_neg z3]
    exact ⟨σ2, t, _, rfl, Or.inr (Or.inr (Or.inr ⟨z, z2, by omega, rfl, rfl⟩)), q2⟩
theorem fM_st {w : Nat} (hw : 1 ≤ w) (hw4 : w ≤ 4) {t : Int} (hT : ∀ τ1, WR N σ τ1 ∧ MOf τ τ1 → ∃ b τ2, f_M_isTried_84 (w : Int) 0 τ1 = some (b, τ2) ∧ (WR N σ τ2 ∧ MOf τ τ2) ∧ ((t = -5 ∧ b = 0) ∨ (t ≠ -5 ∧ b ≠ 0 ∧ τ2 84 63 = t))) (n : Nat) (a c b : Int) {τ1 : pS} (h : WR N σ τ1 ∧ MOf τ τ1) : ∃ τ2 c' b', f_M_fastest_84_p27 (n + 1) a c b (w : Int) τ1 = f_M_fastest_84_p27 n a c' b' ((w : Int) - 1) τ2 ∧ bM (w : Int) t c b c' b' ∧ (WR N σ τ2 ∧ MOf τ τ2) := by
  obtain ⟨q, τ2, q1, q2, q3⟩ := hT τ1 h
  have e : f_M_fastest_84_p27 (n + 1) a c b (w : Int) τ1 = (if q = 0 then f_M_fastest_84_p27 n a c b ((w : Int) - 1) τ2 else (if c = -5 then f_M_fastest_84_p27 n a (w : Int) (τ2 84 63) ((w : Int) - 1) τ2 else (if τ2 84 63 ≤ b then f_M_fastest_84_p27 n a (w : Int) (τ2 84 63) ((w : Int) - 1) τ2 else f_M_fastest_84_p27 n a c b ((w : Int) - 1) τ2))) := by
    show (if (w : Int) ≤ 0 then _ else _) = _
    rw [if_neg (by omega), q1, Option.bind_some, pw_p (show w < 5 by omega) (by decide)]
  rw [e]
  rcases q3 with ⟨y1, y2⟩ | ⟨y1, y2, y3⟩
  · rw [if_pos y2]
    exact ⟨τ2, c, b, rfl, Or.inl ⟨y1, rfl, rfl⟩, q2⟩
  rw [if_neg y2, y3]
  by_cases z2 : c = -5
  · rw [if_pos z2]
    exact ⟨τ2, _, _, rfl, Or.inr (Or.inl ⟨y1, z2, rfl, rfl⟩), q2⟩
  rw [if_neg z2]
  by_cases z3 : t ≤ b
  · rw [if_pos z3]
    exact ⟨τ2, _, _, rfl, Or.inr (Or.inr (Or.inl ⟨y1, z2, z3, rfl, rfl⟩)), q2⟩
  · rw [if_neg z3]
    exact ⟨τ2, c, b, rfl, Or.inr (Or.inr (Or.inr ⟨y1, z2, by omega, rfl, rfl⟩)), q2⟩
/-- the best of those in S: its number in c, what it answers in b; of like ones the least -/
def BS (T : Nat → Int) (S : Nat → Prop) (b c : Int) : Prop := (b = -5 ∧ c = -5 ∧ ∀ i, S i → T i = -5) ∨ ∃ j : Nat, S j ∧ c = (j : Int) ∧ b = T j ∧ T j ≠ -5 ∧ ∀ i, S i → T i = -5 ∨ (T j ≤ T i ∧ (i < j → T j < T i))
def SX (w i : Nat) : Prop := 1 ≤ i ∧ i < w
def SM (w i : Nat) : Prop := w < i ∧ i ≤ 4
theorem bX_st {T : Nat → Int} {w : Nat} {b c b' c' : Int} (hw : 1 ≤ w) (h : BS T (SX w) b c) (s : bX (w : Int) (T w) b c b' c') : BS T (SX (w + 1)) b' c' := by
  have up : ∀ i, SX w i → SX (w + 1) i := fun i hi => ⟨hi.1, by have := hi.2; omega⟩
  have dn : ∀ i, SX (w + 1) i → i ≠ w → SX w i := fun i hi hn => ⟨hi.1, by have := hi.2; omega⟩
  have sw : SX (w + 1) w := ⟨hw, by omega⟩
  rcases s with ⟨z, e1, e2⟩ | ⟨z, zb, e1, e2⟩ | ⟨z, zb, zl, e1, e2⟩ | ⟨z, zb, zl, e1, e2⟩
  · rw [e1, e2]
    rcases h with ⟨x1, x2, x3⟩ | ⟨j, x1, x2, x3, x4, x5⟩
    · refine Or.inl ⟨x1, x2, fun i hi => ?_⟩
      by_cases y : i = w
      · rw [y]; exact z
      · exact x3 i (dn i hi y)
    · refine Or.inr ⟨j, up j x1, x2, x3, x4, fun i hi => ?_⟩
      by_cases y : i = w
      · rw [y]; exact Or.inl z
      · exact x5 i (dn i hi y)
  · rw [e1, e2]
    rcases h with ⟨x1, x2, x3⟩ | ⟨j, x1, x2, x3, x4, x5⟩
    · refine Or.inr ⟨w, sw, rfl, rfl, z, fun i hi => ?_⟩
      by_cases y : i = w
      · rw [y]; exact Or.inr ⟨Int.le_refl _, fun q => absurd q (Nat.lt_irrefl _)⟩
      · exact Or.inl (x3 i (dn i hi y))
    · exact absurd (x3.symm.trans zb) x4
  · rw [e1, e2]
    rcases h with ⟨x1, x2, x3⟩ | ⟨j, x1, x2, x3, x4, x5⟩
    · exact absurd x1 zb
    · refine Or.inr ⟨j, up j x1, x2, x3, x4, fun i hi => ?_⟩
      by_cases y : i = w
      · rw [y]
        rw [x3] at zl
        have := x1.2
        exact Or.inr ⟨zl, fun q => by omega⟩
      · exact x5 i (dn i hi y)
  · rw [e1, e2]
    rcases h with ⟨x1, x2, x3⟩ | ⟨j, x1, x2, x3, x4, x5⟩
    · exact absurd x1 zb
    · refine Or.inr ⟨w, sw, rfl, rfl, z, fun i hi => ?_⟩
      by_cases y : i = w
      · rw [y]; exact Or.inr ⟨Int.le_refl _, fun q => absurd q (Nat.lt_irrefl _)⟩
      · rw [x3] at zl
        rcases x5 i (dn i hi y) with q | ⟨q, -⟩
        · exact Or.inl q
        · exact Or.inr ⟨by omega, fun _ => by omega⟩
theorem bM_st {T : Nat → Int} {w : Nat} {b c b' c' : Int} (hw : w + 1 ≤ 4) (h : BS T (SM (w + 1)) b c) (s : bM ((w + 1 : Nat) : Int) (T (w + 1)) c b c' b') : BS T (SM w) b' c' := by
  have up : ∀ i, SM (w + 1) i → SM w i := fun i hi => ⟨by have := hi.1; omega, hi.2⟩
  have dn : ∀ i, SM w i → i ≠ w + 1 → SM (w + 1) i := fun i hi hn => ⟨by have := hi.1; omega, hi.2⟩
  have sw : SM w (w + 1) := ⟨by omega, hw⟩
  rcases s with ⟨z, e1, e2⟩ | ⟨z, zb, e1, e2⟩ | ⟨z, zb, zl, e1, e2⟩ | ⟨z, zb, zl, e1, e2⟩
  · rw [e1, e2]
    rcases h with ⟨x1, x2, x3⟩ | ⟨j, x1, x2, x3, x4, x5⟩
    · refine Or.inl ⟨x1, x2, fun i hi => ?_⟩
      by_cases y : i = w + 1
      · rw [y]; exact z
      · exact x3 i (dn i hi y)
    · refine Or.inr ⟨j, up j x1, x2, x3, x4, fun i hi => ?_⟩
      by_cases y : i = w + 1
      · rw [y]; exact Or.inl z
      · exact x5 i (dn i hi y)
  · rw [e1, e2]
    rcases h with ⟨x1, x2, x3⟩ | ⟨j, x1, x2, x3, x4, x5⟩
    · refine Or.inr ⟨w + 1, sw, rfl, rfl, z, fun i hi => ?_⟩
      by_cases y : i = w + 1
      · rw [y]; exact Or.inr ⟨Int.le_refl _, fun q => absurd q (Nat.lt_irrefl _)⟩
      · exact Or.inl (x3 i (dn i hi y))
    · exfalso
      rw [x2] at zb
      omega
  · rw [e1, e2]
    rcases h with ⟨x1, x2, x3⟩ | ⟨j, x1, x2, x3, x4, x5⟩
    · exact absurd x2 zb
    · refine Or.inr ⟨w + 1, sw, rfl, rfl, z, fun i hi => ?_⟩
      by_cases y : i = w + 1
      · rw [y]; exact Or.inr ⟨Int.le_refl _, fun q => absurd q (Nat.lt_irrefl _)⟩
      · rw [x3] at zl
        have := hi.1
        rcases x5 i (dn i hi y) with q | ⟨q, -⟩
        · exact Or.inl q
        · exact Or.inr ⟨by omega, fun k => by omega⟩
  · rw [e1, e2]
    rcases h with ⟨x1, x2, x3⟩ | ⟨j, x1, x2, x3, x4, x5⟩
    · exact absurd x2 zb
    · refine Or.inr ⟨j, up j x1, x2, x3, x4, fun i hi => ?_⟩
      by_cases y : i = w + 1
      · rw [y]
        rw [x3] at zl
        exact Or.inr ⟨by omega, fun _ => zl⟩
      · exact x5 i (dn i hi y)
theorem BS_one {T : Nat → Int} {S S' : Nat → Prop} {b c b' c' : Int} (hS : ∀ i, S i ↔ S' i) (h : BS T S b c) (h' : BS T S' b' c') : b = b' ∧ c = c' := by
  rcases h with ⟨x1, x2, x3⟩ | ⟨j, x1, x2, x3, x4, x5⟩
  · rcases h' with ⟨y1, y2, y3⟩ | ⟨k, y1, y2, y3, y4, y5⟩
    · exact ⟨x1.trans y1.symm, x2.trans y2.symm⟩
    · exact absurd (x3 k ((hS k).mpr y1)) y4
  · rcases h' with ⟨y1, y2, y3⟩ | ⟨k, y1, y2, y3, y4, y5⟩
    · exact absurd (y3 j ((hS j).mp x1)) x4
    · have p := (x5 k ((hS k).mpr y1)).resolve_left y4
      have q := (y5 j ((hS j).mp x1)).resolve_left x4
      have e : j = k := by
        rcases Nat.lt_trichotomy j k with r | r | r
        · have := q.2 r
          omega
        · exact r
        · have := p.2 r
          omega
      rw [x2, x3, y2, y3, e]
      exact ⟨rfl, rfl⟩
theorem w_fastest (a : Int) (h : WR N σ τ) : ∃ v σ' τ', f_X_fastest_0 a σ = some (v, σ') ∧ f_M_fastest_84 a τ = some (v, τ') ∧ WS N σ τ σ' τ' := by
  obtain ⟨m, rec, hG⟩ := h.2.1.pg
  have e11 := hG.cm
  have e2 := hG.mm
  unfold f_X_fastest_0 f_M_fastest_84
  rw [m_in, Option.bind_some]
  simp only [e11, e2]
  by_cases g : 0 ≤ a ∧ a ≤ 1
  · rw [if_neg (show ¬ a < 0 by omega), if_neg (show ¬ 1 < a by omega), if_pos g, if_neg (show ¬ (1 : Int) = 0 by decide)]
    by_cases z : (m : Int) = 0
    · rw [if_pos z, if_pos z]
      exact ⟨_, _, _, rfl, rfl, h.sm⟩
    · rw [if_neg z, if_neg z]
      obtain ⟨T, hT⟩ : ∃ T : Nat → Int, ∀ w : Nat, (∀ σ1, EQc wcA σ σ1 ∧ XOf σ σ1 → ∃ σ2, f_Mach_go_3 (w : Int) 0 σ1 = some (T w, σ2) ∧ (EQc wcA σ σ2 ∧ XOf σ σ2)) ∧ ∀ τ1, WR N σ τ1 ∧ MOf τ τ1 → ∃ b τ2, f_M_isTried_84 (w : Int) 0 τ1 = some (b, τ2) ∧ (WR N σ τ2 ∧ MOf τ τ2) ∧ ((T w = -5 ∧ b = 0) ∨ (T w ≠ -5 ∧ b ≠ 0 ∧ τ2 84 63 = T w)) := ⟨fun w => (fs_t (w : Int) hG h).choose, fun w => (fs_t (w : Int) hG h).choose_spec.2⟩
      obtain ⟨s1, b1, c1, p1, p2, p3⟩ := fX_st (w := 1) (by decide) (hT 1).1 4095 a (-5) (-5) ⟨EQc.rf wcA σ, fun _ _ _ _ => rfl⟩
      obtain ⟨s2, b2, c2, p4, p5, p6⟩ := fX_st (w := 2) (by decide) (hT 2).1 4094 a b1 c1 p3
      obtain ⟨s3, b3, c3, p7, p8, p9⟩ := fX_st (w := 3) (by decide) (hT 3).1 4093 a b2 c2 p6
      obtain ⟨s4, b4, c4, p10, p11, p12⟩ := fX_st (w := 4) (by decide) (hT 4).1 4092 a b3 c3 p9
      obtain ⟨r1, d1, e1, q1, q2, q3⟩ := fM_st (w := 4) (by decide) (by decide) (hT 4).2 4095 a (-5) (-5) ⟨h, fun _ _ _ => rfl⟩
      obtain ⟨r2, d2, e2, q4, q5, q6⟩ := fM_st (w := 3) (by decide) (by decide) (hT 3).2 4094 a d1 e1 q3
      obtain ⟨r3, d3, e3, q7, q8, q9⟩ := fM_st (w := 2) (by decide) (by decide) (hT 2).2 4093 a d2 e2 q6
      obtain ⟨r4, d4, e4, q10, q11, q12⟩ := fM_st (w := 1) (by decide) (by decide) (hT 1).2 4092 a d3 e3 q9
      have A0 : BS T (SX 1) (-5) (-5) := Or.inl ⟨rfl, rfl, fun i hi => by have := hi.1; have := hi.2; omega⟩
      have A4 := bX_st (by decide) (bX_st (by decide) (bX_st (by decide) (bX_st (by decide) A0 p2) p5) p8) p11
      have B0 : BS T (SM 4) (-5) (-5) := Or.inl ⟨rfl, rfl, fun i hi => by have := hi.1; have := hi.2; omega⟩
      have B4 := bM_st (w := 0) (by decide) (bM_st (w := 1) (by decide) (bM_st (w := 2) (by decide) (bM_st (w := 3) (by decide) B0 q2) q5) q8) q11
      obtain ⟨eb, ec⟩ := BS_one (fun i => ⟨fun q => ⟨q.1, by have := q.2; omega⟩, fun q => ⟨q.1, by have := q.2; omega⟩⟩) A4 B4
      have fX : f_X_fastest_0_p33 4092 a b4 c4 ((4 + 1 : Nat) : Int) s4 = some (if a = 0 then c4 else b4, s4) := by
        show (if (4 : Int) < ((5 : Nat) : Int) then _ else _) = _
        rw [if_pos (by decide)]
        by_cases y : a = 0
        · rw [if_pos y, if_pos y]
        · rw [if_neg y, if_neg y]
      have fM : f_M_fastest_84_p27 4092 a d4 e4 (((1 : Nat) : Int) - 1) r4 = some (if a = 0 then d4 else e4, r4) := by
        show (if (((1 : Nat) : Int) - 1) ≤ 0 then _ else _) = _
        rw [if_pos (by decide)]
        by_cases y : a = 0
        · rw [if_pos y, if_pos y]
        · rw [if_neg y, if_neg y]
      have X : f_X_fastest_0_p33 4096 a (-5) (-5) 1 σ = some (if a = 0 then c4 else b4, s4) := p1.trans (p4.trans (p7.trans (p10.trans fX)))
      have M : f_M_fastest_84_p27 4096 a (-5) (-5) 4 τ = some (if a = 0 then d4 else e4, r4) := q1.trans (q4.trans (q7.trans (q10.trans fM)))
      rw [X, M, eb, ec]
      refine ⟨_, s4, r4, rfl, rfl, ?_⟩
      exact ⟨(q12.1.qc p12.1).mono (by omega), p12.2, q12.2⟩
  · rw [if_neg g, if_pos rfl]
    by_cases z : a < 0
    · rw [if_pos z]
      exact ⟨_, _, _, rfl, rfl, h.sm⟩
    · rw [if_neg z, if_pos (by omega)]
      exact ⟨_, _, _, rfl, rfl, h.sm⟩
end H9
theorem gp_2 : ∀ (d i fu : Nat) (τ : pS), i + d = 8 → d < fu → f_M_goesPlain_84_p2 fu (i : Int) τ = f_M_goesPlain_84_p28 4096 0 (pCp τ 85 140 i 8)
  | 0, i, fu, τ, hi, hf => by
    obtain ⟨n, rfl⟩ : ∃ n, fu = n + 1 := ⟨fu - 1, by omega⟩
    obtain rfl : i = 8 := by omega
    rw [pCp_e]
    show (if (8 : Int) ≤ ((8 : Nat) : Int) then _ else _) = _
    rw [if_pos (by decide)]
  | d + 1, i, fu, τ, hi, hf => by
    obtain ⟨n, rfl⟩ : ∃ n, fu = n + 1 := ⟨fu - 1, by omega⟩
    have g : (0 : Int) ≤ (i : Int) ∧ (i : Int) < 8 := by omega
    have iL : i < 8 := by omega
    have k1 : ¬ (8 : Int) ≤ (i : Int) := by omega
    have ih := gp_2 d (i + 1) n (pU τ 140 i (τ 85 i)) (by omega) (by omega)
    show (if (8 : Int) ≤ (i : Int) then _ else _) = _
    rw [if_neg k1, if_pos g, if_pos g, Int.toNat_natCast, pw_s iL (by decide), ih, pCp_s (by decide) iL]
theorem gp_28 : ∀ (d i fu : Nat) (τ : pS), i + d = 64 → d < fu → f_M_goesPlain_84_p28 fu (i : Int) τ = f_M_goesPlain_84_p54 4096 0 (pCp τ 86 141 i 64)
  | 0, i, fu, τ, hi, hf => by
    obtain ⟨n, rfl⟩ : ∃ n, fu = n + 1 := ⟨fu - 1, by omega⟩
    obtain rfl : i = 64 := by omega
    rw [pCp_e]
    show (if (64 : Int) ≤ ((64 : Nat) : Int) then _ else _) = _
    rw [if_pos (by decide)]
  | d + 1, i, fu, τ, hi, hf => by
    obtain ⟨n, rfl⟩ : ∃ n, fu = n + 1 := ⟨fu - 1, by omega⟩
    have g : (0 : Int) ≤ (i : Int) ∧ (i : Int) < 64 := by omega
    have iL : i < 64 := by omega
    have k1 : ¬ (64 : Int) ≤ (i : Int) := by omega
    have ih := gp_28 d (i + 1) n (pU τ 141 i (τ 86 i)) (by omega) (by omega)
    show (if (64 : Int) ≤ (i : Int) then _ else _) = _
    rw [if_neg k1, if_pos g, if_pos g, Int.toNat_natCast, pw_s iL (by decide), ih, pCp_s (by decide) iL]
def Ppl (k _x : Nat) : Prop := 66 ≤ k ∧ k ≤ 70
def Qpl (k _x : Nat) : Prop := 140 ≤ k ∧ k ≤ 142
theorem Ppl_A (k x : Nat) (h : Ppl k x) : ¬ wcA k x := by
  unfold Ppl at h
  unfold wcA wcT wcP wcL wcS wcR wcK wcW
  omega
theorem Qpl_A (k x : Nat) (h : Qpl k x) : ¬ wmA k x := by
  unfold Qpl at h
  unfold wmA wmT wmP wmL wmS wmR wmK wmW
  omega
theorem PG.q {m : Nat} {rec : Nat → O8} {σ τ σ' τ' : pS} (h : PG m rec σ τ) (h1 : EQc wcP σ σ') (h2 : EQc wmP τ τ') : PG m rec σ' τ' := by
  have a : ∀ k x, 5 ≤ k → k ≤ 13 → σ' k x = σ k x := fun k x p q => h1 k x (by unfold wcP; omega)
  have b : ∀ k x, 88 ≤ k → k ≤ 95 → τ' k x = τ k x := fun k x p q => h2 k x (by unfold wmP; omega)
  have e8 : σ' 8 = σ 8 := funext (fun x => a 8 x (by decide) (by decide))
  refine ⟨h.le, (h1 4 11 (by unfold wcP; omega)).trans h.cm, (h2 84 2 (by unfold wmP; omega)).trans h.mm, fun j hj => ?_, fun j hj => ?_⟩
  · obtain ⟨c1, c2, c3⟩ := h.op j hj
    refine ⟨?_, ?_, c3⟩
    · unfold CRp at *
      rw [a 5 _ (by decide) (by decide), a 6 _ (by decide) (by decide), a 7 _ (by decide) (by decide), a 8 _ (by decide) (by decide), a 9 _ (by decide) (by decide), a 10 _ (by decide) (by decide), a 11 _ (by decide) (by decide)]
      exact c1
    · unfold MRp at *
      rw [b 88 _ (by decide) (by decide), b 89 _ (by decide) (by decide), b 90 _ (by decide) (by decide), b 91 _ (by decide) (by decide), b 92 _ (by decide) (by decide), b 93 _ (by decide) (by decide), b 94 _ (by decide) (by decide), b 95 _ (by decide) (by decide)]
      exact c2
  · rw [a 12 _ (by decide) (by decide), a 13 _ (by decide) (by decide), a 9 _ (by decide) (by decide), a 10 _ (by decide) (by decide), e8]
    exact h.so j hj
/-- a store's bytes, in the class -/
theorem pp_c {p v : Int} {s : Nat} {M : Nat → Int} (hs : s ≤ 4) : ∀ (d e fu : Nat) (σ : pS), e + d = s → d < fu → (∀ x, σ 68 x = ub p v M e x) → ∃ σ', f_State_putBytes_66_p3 fu p (s : Int) v (e : Int) σ = some (0, σ') ∧ FR (Pk 68) σ σ' ∧ ∀ x, σ' 68 x = ub p v M s x
  | 0, e, fu, σ, he, hf, hm => by
    obtain ⟨n, rfl⟩ : ∃ n, fu = n + 1 := ⟨fu - 1, by omega⟩
    obtain rfl : e = s := by omega
    refine ⟨σ, ?_, FR.rf _ _, hm⟩
    show (if (e : Int) ≤ (e : Int) then _ else _) = _
    rw [if_pos (Int.le_refl _)]
  | d + 1, e, fu, σ, he, hf, hm => by
    obtain ⟨n, rfl⟩ : ∃ n, fu = n + 1 := ⟨fu - 1, by omega⟩
    have he4 : e < 4 := by omega
    have k1 : ¬ (s : Int) ≤ (e : Int) := by omega
    obtain ⟨σ', q1, q2, q3⟩ := pp_c (p := p) (v := v) (M := M) hs d (e + 1) n (pU σ 68 (atk p e).toNat (yb v e)) (by omega) (by omega) (fun x => by
      show _ = (if x = (atk p e).toNat then yb v e else ub p v M e x)
      by_cases hx : x = (atk p e).toNat
      · rw [if_pos hx, hx, pU_s]
      · rw [if_neg hx, pU_i _ _ _ _ hx]
        exact hm x)
    refine ⟨σ', ?_, (FR.u (P := Pk 68) rfl).tr q2, q3⟩
    show (if (s : Int) ≤ (e : Int) then _ else _) = _
    rw [if_neg k1, if_pos (pAnd_63 _), pw_s he4 (by decide)]
    exact q1
/-- and in the reference -/
theorem pm_s {i s : Nat} {p v r : Int} {M : Nat → Int} (hi : i < 20) (hs : s ≤ 4) (hr : 0 ≤ r ∧ r < 8) : ∀ (d e fu : Nat) (τ : pS), e + d = s → d < fu → τ 93 i = (s : Int) → τ 88 i = 3 → τ 90 i = r → τ 142 i = p → τ 140 r.toNat = v → (∀ x, τ 141 x = ub p v M e x) → ∃ τ', f_M_doesPlain_84_p128 fu (i : Int) 0 (e : Int) τ = some (0, τ') ∧ FR (Pk 141) τ τ' ∧ ∀ x, τ' 141 x = ub p v M s x
  | 0, e, fu, τ, he, hf, h93, h88, h90, h142, hv, hm => by
    obtain ⟨n, rfl⟩ : ∃ n, fu = n + 1 := ⟨fu - 1, by omega⟩
    have g : (0 : Int) ≤ (i : Int) ∧ (i : Int) < 20 := by omega
    obtain rfl : e = s := by omega
    refine ⟨τ, ?_, FR.rf _ _, hm⟩
    show (if (0 : Int) ≤ (i : Int) ∧ (i : Int) < 20 then _ else _) = _
    rw [if_pos g, Int.toNat_natCast, h93, if_pos (Int.le_refl _), if_pos g, h88, if_neg (by decide)]
  | d + 1, e, fu, τ, he, hf, h93, h88, h90, h142, hv, hm => by
    obtain ⟨n, rfl⟩ : ∃ n, fu = n + 1 := ⟨fu - 1, by omega⟩
    have g : (0 : Int) ≤ (i : Int) ∧ (i : Int) < 20 := by omega
    have he4 : e < 4 := by omega
    have k1 : ¬ (s : Int) ≤ (e : Int) := by omega
    have hby : pAnd (pShr v (pw (8 * (e : Int)))) 255 = yb v e := bs_p v _ (by omega)
    have f1 : FR (Pk 141) τ (pU τ 141 (atk p e).toNat (yb v e)) := FR.u rfl
    obtain ⟨τ', q1, q2, q3⟩ := pm_s (p := p) (v := v) (M := M) hi hs hr d (e + 1) n (pU τ 141 (atk p e).toNat (yb v e)) (by omega) (by omega) ((f1.get (by unfold Pk; omega)).trans h93) ((f1.get (by unfold Pk; omega)).trans h88) ((f1.get (by unfold Pk; omega)).trans h90) ((f1.get (by unfold Pk; omega)).trans h142) ((f1.get (by unfold Pk; omega)).trans hv) (fun x => by
      show _ = (if x = (atk p e).toNat then yb v e else ub p v M e x)
      by_cases hx : x = (atk p e).toNat
      · rw [if_pos hx, hx, pU_s]
      · rw [if_neg hx, pU_i _ _ _ _ hx]
        exact hm x)
    refine ⟨τ', ?_, f1.tr q2, q3⟩
    show (if (0 : Int) ≤ (i : Int) ∧ (i : Int) < 20 then _ else _) = _
    rw [if_pos g, Int.toNat_natCast, h93, if_neg k1, if_pos g, if_pos g, h88, if_pos rfl, if_pos g, h90, if_pos hr, hv, h142]
    unfold f_M_byteOf
    rw [Option.bind_some]
    dsimp only
    rw [if_pos (pAnd_63 _), hby, pw_s he4 (by decide)]
    exact q1
/-- a load's bytes -/
theorem pl_l {i s : Nat} {p r : Int} {σ τ : pS} (hi : i < 20) (hs : s ≤ 4) (hr : 0 ≤ r ∧ r < 8) (h93 : τ 93 i = (s : Int)) (h88 : τ 88 i = 2) (h90 : τ 90 i = r) (h142 : τ 142 i = p) (hm : ∀ x, x < 64 → σ 68 x = τ 141 x) : ∀ (d e fu1 fu2 : Nat) (acc : Int), e + d = s → d < fu1 → d < fu2 → ∃ v, f_Plain_loaded_65_p5 fu1 p (s : Int) acc (e : Int) σ = some (v, σ) ∧ f_M_doesPlain_84_p128 fu2 (i : Int) acc (e : Int) τ = some (0, pU τ 140 r.toNat v)
  | 0, e, fu1, fu2, acc, he, h1, h2 => by
    obtain ⟨n1, rfl⟩ : ∃ n, fu1 = n + 1 := ⟨fu1 - 1, by omega⟩
    obtain ⟨n2, rfl⟩ : ∃ n, fu2 = n + 1 := ⟨fu2 - 1, by omega⟩
    have g : (0 : Int) ≤ (i : Int) ∧ (i : Int) < 20 := by omega
    obtain rfl : e = s := by omega
    refine ⟨acc, ?_, ?_⟩
    · show (if (e : Int) ≤ (e : Int) then _ else _) = _
      rw [if_pos (Int.le_refl _)]
    · show (if (0 : Int) ≤ (i : Int) ∧ (i : Int) < 20 then _ else _) = _
      rw [if_pos g, Int.toNat_natCast, h93, if_pos (Int.le_refl _), if_pos g, h88, if_pos rfl, if_pos g, h90, if_pos hr]
  | d + 1, e, fu1, fu2, acc, he, h1, h2 => by
    obtain ⟨n1, rfl⟩ : ∃ n, fu1 = n + 1 := ⟨fu1 - 1, by omega⟩
    obtain ⟨n2, rfl⟩ : ∃ n, fu2 = n + 1 := ⟨fu2 - 1, by omega⟩
    have g : (0 : Int) ≤ (i : Int) ∧ (i : Int) < 20 := by omega
    have he4 : e < 4 := by omega
    have k1 : ¬ (s : Int) ≤ (e : Int) := by omega
    have hx : (pAnd (pw (p + (e : Int))) 63).toNat < 64 := by have z := pAnd_63 (pw (p + (e : Int))); omega
    obtain ⟨v, q1, q2⟩ := pl_l hi hs hr h93 h88 h90 h142 hm d (e + 1) n1 n2 (pOr acc (pShl (σ 68 (pAnd (pw (p + (e : Int))) 63).toNat) (pw (8 * (e : Int))))) (by omega) (by omega) (by omega)
    refine ⟨v, ?_, ?_⟩
    · show (if (s : Int) ≤ (e : Int) then _ else _) = _
      rw [if_neg k1, if_pos (pAnd_63 _), pw_s he4 (by decide)]
      exact q1
    · show (if (0 : Int) ≤ (i : Int) ∧ (i : Int) < 20 then _ else _) = _
      rw [if_pos g, Int.toNat_natCast, h93, if_neg k1, if_pos g, if_pos g, h88, if_neg (by decide), h142, if_pos (pAnd_63 _), ← hm _ hx, pw_s he4 (by decide)]
      exact q2
/-- the plain run under way, alike -/
def PLr (i : Nat) (σ τ : pS) : Prop := (∀ r, r < 8 → σ 67 r = τ 140 r) ∧ (∀ x, x < 64 → σ 68 x = τ 141 x) ∧ ∀ j, j < i → 2 ≤ σ 5 j → σ 70 j = τ 142 j ∧ 0 ≤ σ 70 j ∧ σ 70 j < 64
theorem c_vin (r : Int) (σ : pS) : f_Plain_valueIn_65 r σ = some (if 0 ≤ r ∧ r < 8 then σ 67 r.toNat else 0, σ) := by
  unfold f_Plain_valueIn_65
  rw [x_isCell, Option.bind_some]
  dsimp only
  by_cases z : 0 ≤ r ∧ r < 8
  · rw [if_pos z, if_pos z, if_pos z, if_neg (by decide)]
  · rw [if_neg z, if_pos rfl, if_neg z]
section HA
variable {N m : Nat} {rec : Nat → O8} {σ τ σ' τ' : pS}
theorem pl_st (hG : PG m rec σ τ) {i : Nat} (h : PLr i σ τ) (hi : i < m) (n : Nat) : ∃ σ' τ', f_Plain_go_65_4_24_p10 (n + 1) (i : Int) σ = f_Plain_go_65_4_24_p10 n ((i + 1 : Nat) : Int) σ' ∧ f_M_doesPlain_84 (i : Int) τ = some (0, τ') ∧ FR Ppl σ σ' ∧ FR Qpl τ τ' ∧ PLr (i + 1) σ' τ' := by
  have hm := hG.le
  have i20 : i < 20 := by omega
  have g : (0 : Int) ≤ (i : Int) ∧ (i : Int) < 20 := by omega
  have nX : ¬ σ 4 11 ≤ (i : Int) := by have := hG.cm; omega
  obtain ⟨h1, h2, h3⟩ := h
  obtain ⟨cr, mr, vv⟩ := hG.op i hi
  obtain ⟨r5, r6, r7, r89, r10, r11⟩ := cr
  obtain ⟨t88, t89, t90, t1, t2, t95⟩ := mr
  obtain ⟨w1, w2, w3, w4, w5, w6, w7⟩ := vv
  have e88 : τ 88 i = σ 5 i := t88.trans r5.symm
  obtain ⟨A, hA⟩ : ∃ A : Int, (if 0 ≤ σ 9 i ∧ σ 9 i < 8 then σ 67 (σ 9 i).toNat else 0) = A := ⟨_, rfl⟩
  obtain ⟨B, hB⟩ : ∃ B : Int, (if 0 ≤ σ 10 i ∧ σ 10 i < 8 then σ 67 (σ 10 i).toNat else 0) = B := ⟨_, rfl⟩
  obtain ⟨p, hp⟩ : ∃ p : Int, pAnd (pw (B + σ 11 i)) 63 = p := ⟨_, rfl⟩
  have hp63 : 0 ≤ p ∧ p < 64 := by rw [← hp]; exact pAnd_63 _
  obtain ⟨σ1, e1⟩ : ∃ s, pU σ 70 i p = s := ⟨_, rfl⟩
  have f1 : FR Ppl σ σ1 := by rw [← e1]; exact FR.u (by unfold Ppl; omega)
  have o1 : ∀ k x, k ≠ 70 → σ1 k x = σ k x := fun k x z => by rw [← e1, pU_c _ _ _ _ z]
  have x70 : σ1 70 i = p := by rw [← e1, pU_s]
  have eX : f_Plain_go_65_4_24_p10 (n + 1) (i : Int) σ = (if σ 5 i = 3 then ((f_State_putBytes_66 p (σ 7 i) A σ1).bind fun q25 => f_Plain_go_65_4_24_p10 n ((i + 1 : Nat) : Int) q25.2) else (if (if 0 ≤ σ 8 i ∧ σ 8 i < 8 then (1 : Int) else 0) = 0 then f_Plain_go_65_4_24_p10 n ((i + 1 : Nat) : Int) σ1 else (if σ 5 i = 2 then ((f_Plain_loaded_65 p (σ 7 i) σ1).bind fun q21 => (if 0 ≤ σ 8 i ∧ σ 8 i < 8 then f_Plain_go_65_4_24_p10 n ((i + 1 : Nat) : Int) (pU q21.2 67 (σ 8 i).toNat q21.1) else none)) else ((f_Prog_reckoned_4 (i : Int) A B σ1).bind fun q17 => (if 0 ≤ σ 8 i ∧ σ 8 i < 8 then f_Plain_go_65_4_24_p10 n ((i + 1 : Nat) : Int) (pU q17.2 67 (σ 8 i).toNat q17.1) else none))))) := by
    show (if σ 4 11 ≤ (i : Int) then _ else _) = _
    rw [if_neg nX]
    simp only [if_pos g, Int.toNat_natCast, c_vin, Option.bind_some, hA, hB]
    have ep : f_Prog_placeBy_4 (i : Int) B σ = some (p, σ) := by
      unfold f_Prog_placeBy_4
      rw [if_pos g, Int.toNat_natCast, hp]
    rw [ep, Option.bind_some]
    simp only [e1, x70, x_isCell, Option.bind_some, pw_s i20 (show 20 ≤ 100000 by decide), o1 8 i (by decide), o1 5 i (by decide), o1 7 i (by decide)]
  -- what holds of the places then
  have pk : ∀ (s t : pS), (∀ j, s 5 j = σ 5 j) → (∀ j, j < i → s 70 j = σ 70 j ∧ t 142 j = τ 142 j) → (2 ≤ σ 5 i → s 70 i = p ∧ t 142 i = p) → ∀ j, j < i + 1 → 2 ≤ s 5 j → s 70 j = t 142 j ∧ 0 ≤ s 70 j ∧ s 70 j < 64 := fun s t z1 z2 z3 j hj hk => by
    rw [z1] at hk
    by_cases y : j = i
    · rw [y] at hk ⊢
      obtain ⟨u1, u2⟩ := z3 hk
      rw [u1, u2]
      exact ⟨rfl, hp63⟩
    · obtain ⟨u1, u2⟩ := z2 j (by omega)
      rw [u1, u2]
      exact h3 j (by omega) hk
  rw [eX]
  by_cases k3 : σ 5 i = 3
  · rw [if_pos k3]
    obtain ⟨sz1, sz2⟩ := hG.sz hi (by omega)
    obtain ⟨s, hs⟩ : ∃ s : Nat, σ 7 i = (s : Int) := ⟨(σ 7 i).toNat, by omega⟩
    have r9 : σ 9 i = (rec i).2.2.2.1 := by
      rcases r89 with ⟨-, -, q⟩ | ⟨q, -⟩
      · exact q
      · omega
    have r10' : σ 10 i = (rec i).2.2.2.2.2.2.1 := by
      rcases r10 with ⟨q, -⟩ | ⟨-, q⟩
      · omega
      · exact q
    obtain ⟨t93, t94⟩ := t2 (by omega)
    have hr : 0 ≤ τ 90 i ∧ τ 90 i < 8 := by rw [t90]; omega
    have e90 : σ 9 i = τ 90 i := r9.trans t90.symm
    have hAv : A = τ 140 (τ 90 i).toNat := by
      rw [← hA, e90, if_pos hr]
      exact h1 _ (by omega)
    have e94 : τ 94 i = σ 10 i := t94.trans r10'.symm
    have e95 : τ 95 i = σ 11 i := (t95 (by omega)).trans r11.symm
    have ss4 : s ≤ 4 := by omega
    obtain ⟨t1', et⟩ : ∃ t, pU τ 142 i p = t := ⟨_, rfl⟩
    have ot : ∀ k x, k ≠ 142 → t1' k x = τ k x := fun k x z => by rw [← et, pU_c _ _ _ _ z]
    have eM : f_M_doesPlain_84 (i : Int) τ = f_M_doesPlain_84_p128 4096 (i : Int) 0 ((0 : Nat) : Int) t1' := by
      unfold f_M_doesPlain_84 f_M_doesPlain_84_p105
      simp only [if_pos g, Int.toNat_natCast, e88, k3, e94, e95]
      rw [if_neg (by decide), if_neg (by decide)]
      by_cases y : σ 10 i = -1
      · have : B = 0 := by rw [← hB, y]; rfl
        rw [if_pos y, ← et, ← hp, this]
        rfl
      · have y8 : 0 ≤ σ 10 i ∧ σ 10 i < 8 := by omega
        have : B = τ 140 (σ 10 i).toNat := by rw [← hB, if_pos y8]; exact h1 _ (by omega)
        rw [if_neg y, if_pos y8, ← et, ← hp, this]
        rfl
    obtain ⟨σ2, q1, q2, q3⟩ := pp_c (p := p) (v := A) (s := s) (M := σ 68) ss4 s 0 4096 σ1 (by omega) (by omega) (fun x => o1 68 x (by decide))
    obtain ⟨τ2, y1, y2, y3⟩ := pm_s (i := i) (s := s) (p := p) (v := A) (r := τ 90 i) (M := τ 141) i20 ss4 hr s 0 4096 t1' (by omega) (by omega) (by rw [ot _ _ (by decide), sz1]; exact hs) (by rw [ot _ _ (by decide), e88]; exact k3) (ot _ _ (by decide)) (by rw [← et, pU_s]) (by rw [ot _ _ (by decide), hAv]) (fun x => ot 141 x (by decide))
    have q1 : f_State_putBytes_66 p (s : Int) A σ1 = some (0, σ2) := q1
    refine ⟨σ2, τ2, by rw [hs, q1, Option.bind_some], eM.trans y1, f1.tr (q2.mono (fun k x z => by unfold Pk at z; unfold Ppl; omega)), ((by rw [← et]; exact FR.u (by unfold Qpl; omega) : FR Qpl τ t1')).tr (y2.mono (fun k x z => by unfold Pk at z; unfold Qpl; omega)), fun r hr' => ?_, fun x hx => ?_, pk σ2 τ2 (fun j => ?_) (fun j hj => ⟨?_, ?_⟩) (fun _ => ⟨?_, ?_⟩)⟩
    · rw [q2.get (by unfold Pk; omega), y2.get (by unfold Pk; omega), o1 _ _ (by decide), ot _ _ (by decide)]; exact h1 r hr'
    · rw [q3, y3]; exact ub_cg h2 s x hx
    · rw [q2.get (by unfold Pk; omega), o1 _ _ (by decide)]
    · rw [q2.get (by unfold Pk; omega), ← e1, pU_i _ _ _ _ (by omega)]
    · rw [y2.get (by unfold Pk; omega), ← et, pU_i _ _ _ _ (by omega)]
    · rw [q2.get (by unfold Pk; omega), x70]
    · rw [y2.get (by unfold Pk; omega), ← et, pU_s]
  rw [if_neg k3]
  have r8 : σ 8 i = (rec i).2.2.2.1 := by
    rcases r89 with ⟨q, -⟩ | ⟨-, q, -⟩
    · omega
    · exact q
  have hr : 0 ≤ σ 8 i ∧ σ 8 i < 8 := by rw [r8]; omega
  have e90 : τ 90 i = σ 8 i := t90.trans r8.symm
  rw [if_pos hr, if_neg (show ¬ (1 : Int) = 0 by decide)]
  -- a register becomes v
  have fin : ∀ (v : Int) (t : pS), (∀ k x, k ≠ 142 → t k x = τ k x) → (∀ j, j < i → t 142 j = τ 142 j) → (2 ≤ σ 5 i → t 142 i = p) → FR Qpl τ t → PLr (i + 1) (pU σ1 67 (σ 8 i).toNat v) (pU t 140 (σ 8 i).toNat v) := fun v t z1 z2 z3 z4 => by
    refine ⟨fun r hr' => ?_, fun x hx => ?_, pk _ _ (fun j => ?_) (fun j hj => ⟨?_, ?_⟩) (fun k => ⟨?_, ?_⟩)⟩
    · by_cases y : r = (σ 8 i).toNat
      · rw [y, pU_s, pU_s]
      · rw [pU_i _ _ _ _ y, pU_i _ _ _ _ y, o1 _ _ (by decide), z1 _ _ (by decide)]; exact h1 r hr'
    · rw [pU_c _ _ _ _ (by decide), pU_c _ _ _ _ (by decide), o1 _ _ (by decide), z1 _ _ (by decide)]; exact h2 x hx
    · rw [pU_c _ _ _ _ (by decide), o1 _ _ (by decide)]
    · rw [pU_c _ _ _ _ (by decide), ← e1, pU_i _ _ _ _ (by omega)]
    · rw [pU_c _ _ _ _ (by decide)]; exact z2 j hj
    · rw [pU_c _ _ _ _ (by decide), x70]
    · rw [pU_c _ _ _ _ (by decide)]; exact z3 k
  by_cases k2 : σ 5 i = 2
  · rw [if_pos k2]
    obtain ⟨sz1, sz2⟩ := hG.sz hi (by omega)
    obtain ⟨s, hs⟩ : ∃ s : Nat, σ 7 i = (s : Int) := ⟨(σ 7 i).toNat, by omega⟩
    have ss4 : s ≤ 4 := by omega
    have r10' : σ 10 i = (rec i).2.2.2.2.2.2.1 := by
      rcases r10 with ⟨q, -⟩ | ⟨-, q⟩
      · omega
      · exact q
    obtain ⟨t93, t94⟩ := t2 (by omega)
    have e94 : τ 94 i = σ 10 i := t94.trans r10'.symm
    have e95 : τ 95 i = σ 11 i := (t95 (by omega)).trans r11.symm
    obtain ⟨t1', et⟩ : ∃ t, pU τ 142 i p = t := ⟨_, rfl⟩
    have ot : ∀ k x, k ≠ 142 → t1' k x = τ k x := fun k x z => by rw [← et, pU_c _ _ _ _ z]
    have eM : f_M_doesPlain_84 (i : Int) τ = f_M_doesPlain_84_p128 4096 (i : Int) 0 ((0 : Nat) : Int) t1' := by
      unfold f_M_doesPlain_84 f_M_doesPlain_84_p105
      simp only [if_pos g, Int.toNat_natCast, e88, k2, e94, e95]
      rw [if_neg (by decide), if_neg (by decide)]
      by_cases y : σ 10 i = -1
      · have : B = 0 := by rw [← hB, y]; rfl
        rw [if_pos y, ← et, ← hp, this]
        rfl
      · have y8 : 0 ≤ σ 10 i ∧ σ 10 i < 8 := by omega
        have : B = τ 140 (σ 10 i).toNat := by rw [← hB, if_pos y8]; exact h1 _ (by omega)
        rw [if_neg y, if_pos y8, ← et, ← hp, this]
        rfl
    obtain ⟨v, q1, q2⟩ := pl_l (i := i) (s := s) (p := p) (r := σ 8 i) (σ := σ1) (τ := t1') i20 ss4 hr (by rw [ot _ _ (by decide), sz1]; exact hs) (by rw [ot _ _ (by decide), e88]; exact k2) (by rw [ot _ _ (by decide)]; exact e90) (by rw [← et, pU_s]) (fun x hx => by rw [o1 _ _ (by decide), ot _ _ (by decide)]; exact h2 x hx) s 0 4096 4096 0 (by omega) (by omega) (by omega)
    have q1 : f_Plain_loaded_65 p (s : Int) σ1 = some (v, σ1) := q1
    have ft : FR Qpl τ t1' := by rw [← et]; exact FR.u (by unfold Qpl; omega)
    refine ⟨pU σ1 67 (σ 8 i).toNat v, pU t1' 140 (σ 8 i).toNat v, by rw [hs, q1, Option.bind_some]; dsimp only; rw [if_pos hr], eM.trans q2, f1.tr (FR.u (by unfold Ppl; omega)), ft.tr (FR.u (by unfold Qpl; omega)), fin v t1' ot (fun j hj => by rw [← et, pU_i _ _ _ _ (by omega)]) (fun _ => by rw [← et, pU_s]) ft⟩
  rw [if_neg k2]
  by_cases k0 : σ 5 i = 0
  · have e6 : σ1 6 i = 35 := by
      rw [o1 6 i (by decide), r6]
      exact ko_0 (by rw [← w7, ← r5]; exact k0)
    have e95 : τ 95 i = σ 11 i := (t95 (by omega)).trans r11.symm
    rw [c_rk0 i20 _ _ e6, Option.bind_some]
    dsimp only
    rw [if_pos hr, o1 11 i (by decide)]
    refine ⟨_, pU τ 140 (σ 8 i).toNat (σ 11 i), rfl, ?_, f1.tr (FR.u (by unfold Ppl; omega)), FR.u (by unfold Qpl; omega), fin _ τ (fun _ _ _ => rfl) (fun _ _ => rfl) (fun q => by omega) (FR.rf _ _)⟩
    unfold f_M_doesPlain_84
    simp only [if_pos g, Int.toNat_natCast, e88, e90, e95, if_pos hr, if_pos k0]
  · have k1 : σ 5 i = 1 := by omega
    obtain ⟨t91, t92⟩ := t1 (by omega)
    have r9 : σ 9 i = (rec i).2.2.2.2.1 := by
      rcases r89 with ⟨q, -⟩ | ⟨-, -, q⟩
      · omega
      · exact q
    have r10' : σ 10 i = (rec i).2.2.2.2.2.1 := by
      rcases r10 with ⟨-, q⟩ | ⟨q, -⟩
      · exact q
      · omega
    rcases w3 with ⟨-, v9, v10⟩ | ⟨q, -⟩
    · have e6 := ko_1 (c := σ1 6 i) (by rw [o1 6 i (by decide), r6, ← w7, ← r5]; exact k1)
      have g91 : 0 ≤ τ 91 i ∧ τ 91 i < 8 := by rw [t91]; omega
      have g92 : 0 ≤ τ 92 i ∧ τ 92 i < 8 := by rw [t92]; omega
      have hAv : A = τ 140 (τ 91 i).toNat := by
        rw [← hA, r9, ← t91, if_pos g91]
        exact h1 _ (by omega)
      have hBv : B = τ 140 (τ 92 i).toNat := by
        rw [← hB, r10', ← t92, if_pos g92]
        exact h1 _ (by omega)
      obtain ⟨v, c1, c2⟩ := c_rk1 i20 A B (τ1 := τ) e6
      have e89 : τ 89 i = σ1 6 i := by rw [t89, o1 6 i (by decide), r6]
      rw [c1, Option.bind_some]
      dsimp only
      rw [if_pos hr]
      refine ⟨_, pU τ 140 (σ 8 i).toNat v, rfl, ?_, f1.tr (FR.u (by unfold Ppl; omega)), FR.u (by unfold Qpl; omega), fin _ τ (fun _ _ _ => rfl) (fun _ _ => rfl) (fun q => by omega) (FR.rf _ _)⟩
      unfold f_M_doesPlain_84
      simp only [if_pos g, Int.toNat_natCast, e88, e90, if_pos hr, if_neg k0, if_pos k1, if_pos g91, if_pos g92]
      rw [← hAv, ← hBv, e89, c2, Option.bind_some]
    · omega
theorem pl_lp (hm : m ≤ 20) : ∀ (d i fu1 fu2 : Nat) (σ τ : pS), i + d = m → d < fu1 → d < fu2 → PG m rec σ τ → PLr i σ τ → ∃ σ' τ', f_Plain_go_65_4_24_p10 fu1 (i : Int) σ = some (0, σ') ∧ f_M_goesPlain_84_p54 fu2 (i : Int) τ = some (0, τ') ∧ FR Ppl σ σ' ∧ FR Qpl τ τ' ∧ PLr m σ' τ'
  | 0, i, fu1, fu2, σ, τ, hi, h1, h2, hG, h => by
    obtain ⟨n1, rfl⟩ : ∃ n, fu1 = n + 1 := ⟨fu1 - 1, by omega⟩
    obtain ⟨n2, rfl⟩ : ∃ n, fu2 = n + 1 := ⟨fu2 - 1, by omega⟩
    have e1 := hG.cm
    have e2 := hG.mm
    obtain rfl : i = m := by omega
    refine ⟨σ, τ, ?_, ?_, FR.rf _ _, FR.rf _ _, h⟩
    · show (if σ 4 11 ≤ (i : Int) then _ else _) = _
      rw [if_pos (by omega)]
    · show (if τ 84 2 ≤ (i : Int) then _ else _) = _
      rw [if_pos (by omega)]
  | d + 1, i, fu1, fu2, σ, τ, hi, h1, h2, hG, h => by
    obtain ⟨n1, rfl⟩ : ∃ n, fu1 = n + 1 := ⟨fu1 - 1, by omega⟩
    obtain ⟨n2, rfl⟩ : ∃ n, fu2 = n + 1 := ⟨fu2 - 1, by omega⟩
    have e2 := hG.mm
    have him : i < m := by omega
    have i20 : i < 20 := by omega
    have nM : ¬ τ 84 2 ≤ (i : Int) := by omega
    have d1 : (i + 1) + d = m := by omega
    have d2 : d < n1 := by omega
    have d3 : d < n2 := by omega
    obtain ⟨σ1, τ1, p1, p2, p3, p4, p5⟩ := pl_st hG h him n1
    have hG1 : PG m rec σ1 τ1 := hG.q (p3.eq (fun k x z => by unfold Ppl at z; unfold wcP; omega)) (p4.eq (fun k x z => by unfold Qpl at z; unfold wmP; omega))
    obtain ⟨σ2, τ2, q1, q2, q3, q4, q5⟩ := pl_lp hm d (i + 1) n1 n2 σ1 τ1 d1 d2 d3 hG1 p5
    refine ⟨σ2, τ2, p1.trans q1, ?_, p3.tr q3, p4.tr q4, q5⟩
    show (if τ 84 2 ≤ (i : Int) then _ else _) = _
    rw [if_neg nM, p2, Option.bind_some, pw_s i20 (by decide)]
    exact q2
theorem gpl_ls (hG : PG m rec σ τ) (hS : SRx σ τ) : ∃ σ' τ', f_Plain_go_65_4_24 σ = some (0, σ') ∧ f_M_goesPlain_84 τ = some (0, τ') ∧ FR Ppl σ σ' ∧ FR Qpl τ τ' ∧ PLr m σ' τ' := by
  have hm := hG.le
  obtain ⟨σ1, e1⟩ : ∃ s, pU (pKp (pU (pU (pKp (pKp σ 25 67 8) 26 68 64) 66 4 (σ 24 4)) 66 5 (σ 24 5)) 27 69 20) 66 3 (σ 24 3) = s := ⟨_, rfl⟩
  obtain ⟨τ1, d1⟩ : ∃ t, pCp (pCp τ 85 140 0 8) 86 141 0 64 = t := ⟨_, rfl⟩
  have f1 : FR Ppl σ σ1 := by
    rw [← e1]
    refine FR.tr ?_ (FR.u (by unfold Ppl; omega))
    refine FR.tr ?_ (FR.kp (fun x _ => by unfold Ppl; omega))
    refine FR.tr ?_ (FR.u (by unfold Ppl; omega))
    refine FR.tr ?_ (FR.u (by unfold Ppl; omega))
    refine FR.tr ?_ (FR.kp (fun x _ => by unfold Ppl; omega))
    exact FR.kp (fun x _ => by unfold Ppl; omega)
  have f2 : FR Qpl τ τ1 := by
    rw [← d1]
    refine FR.tr ?_ (FR.cp (fun x _ => by unfold Qpl; omega))
    exact FR.cp (fun x _ => by unfold Qpl; omega)
  have c1 : f_State_copyFrom_66_24 σ = some (0, σ1) := by
    rw [← e1]
    unfold f_State_copyFrom_66_24 f_State_copyCellsFrom_66_24 f_State_copySetsFrom_66_24
    rfl
  have hG1 : PG m rec σ1 τ1 := hG.q (f1.eq (fun k x z => by unfold Ppl at z; unfold wcP; omega)) (f2.eq (fun k x z => by unfold Qpl at z; unfold wmP; omega))
  have h0 : PLr 0 σ1 τ1 := by
    refine ⟨fun r hr => ?_, fun x hx => ?_, fun j hj => absurd hj (Nat.not_lt_zero _)⟩
    · rw [← d1, pCp_o (by decide), pCp_d (by omega) hr, ← hS.1 r hr, ← e1]
      simp [pU, pKp, hr]
    · rw [← d1, pCp_d (by omega) hx, pCp_o (by decide), ← hS.2.1 x hx, ← e1]
      simp [pU, pKp, hx]
  obtain ⟨σ2, τ2, q1, q2, q3, q4, q5⟩ := pl_lp hm m 0 4096 4096 σ1 τ1 (by omega) (by omega) (by omega) hG1 h0
  have q1 : f_Plain_go_65_4_24_p10 4096 0 σ1 = some (0, σ2) := q1
  have q2 : f_M_goesPlain_84_p54 4096 0 τ1 = some (0, τ2) := q2
  refine ⟨σ2, τ2, ?_, ?_, f1.tr q3, f2.tr q4, q5⟩
  · unfold f_Plain_go_65_4_24
    rw [c1, Option.bind_some]
    exact q1
  · have k1 : f_M_goesPlain_84 τ = f_M_goesPlain_84_p28 4096 0 (pCp τ 85 140 0 8) := gp_2 8 0 4096 τ (by omega) (by omega)
    have k2 : f_M_goesPlain_84_p28 4096 0 (pCp τ 85 140 0 8) = f_M_goesPlain_84_p54 4096 0 τ1 := by rw [← d1]; exact gp_28 64 0 4096 _ (by omega) (by omega)
    rw [k1, k2]
    exact q2
theorem w_plain (a : Int) (h : WR N σ τ) : ∃ v σ' τ', f_X_plain_0 a σ = some (v, σ') ∧ f_M_plain_84 a τ = some (v, τ') ∧ WS N σ τ σ' τ' := by
  obtain ⟨m, rec, hG⟩ := h.2.1.pg
  obtain ⟨σ1, τ1, q1, q2, q3, q4, q5, q6, -⟩ := gpl_ls hG h.2.2.2.1
  have hW : WS N σ τ σ1 τ1 := WS.of q3 q4 (fun k x z => by unfold Ppl at z; omega) (fun k x z => by unfold Qpl at z; omega) (h.q (q3.eq Ppl_A) (q4.eq Qpl_A))
  unfold f_X_plain_0 f_M_plain_84 f_X_plain_0_p17
  simp only [q1, q2, x_isCell, x_isByte, m_in, Option.bind_some]
  by_cases g : 0 ≤ a ∧ a < 8
  · rw [if_pos g, if_neg (show ¬ (1 : Int) = 0 by decide), if_neg (show ¬ (1 : Int) = 0 by decide), if_pos g, if_pos (show 0 ≤ a ∧ a ≤ 7 by omega), if_neg (show ¬ (1 : Int) = 0 by decide), if_pos g, ← q5 a.toNat (by omega)]
    exact ⟨_, σ1, τ1, rfl, rfl, hW⟩
  · rw [if_neg g, if_pos rfl, if_neg (show ¬ (0 ≤ a ∧ a ≤ 7) by omega), if_pos rfl]
    by_cases gb : 100 ≤ a ∧ a ≤ 163
    · have e : pw (a - 100) = a - 100 := pw_id (by omega) (by omega)
      have g2 : 0 ≤ a - 100 ∧ a - 100 < 64 := by omega
      rw [if_pos gb, if_neg (show ¬ (1 : Int) = 0 by decide), if_neg (show ¬ (1 : Int) = 0 by decide), e]
      simp only [if_true, if_pos g2, ← q6 (a - 100).toNat (by omega)]
      exact ⟨_, σ1, τ1, rfl, rfl, hW⟩
    · rw [if_neg gb, if_pos rfl, if_pos rfl]
      exact ⟨_, σ, τ1, rfl, rfl, WS.of (FR.rf Ppl σ) q4 (fun k x z => by unfold Ppl at z; omega) (fun k x z => by unfold Qpl at z; omega) (h.q (EQc.rf _ _) (q4.eq Qpl_A))⟩
end HA
/-- at how many of the first places two differ -/
def dC (f g : Nat → Int) : Nat → Nat
  | 0 => 0
  | k + 1 => if f k = g k then dC f g k else dC f g k + 1
theorem dC_le (f g : Nat → Int) : ∀ k, dC f g k ≤ k
  | 0 => Nat.le_refl 0
  | k + 1 => by
    have := dC_le f g k
    unfold dC
    split <;> omega
theorem dC_cg {f g f' g' : Nat → Int} : ∀ k, (∀ j, j < k → f j = f' j) → (∀ j, j < k → g j = g' j) → dC f g k = dC f' g' k
  | 0, _, _ => rfl
  | k + 1, h1, h2 => by
    unfold dC
    rw [h1 k (by omega), h2 k (by omega), dC_cg k (fun j hj => h1 j (by omega)) (fun j hj => h2 j (by omega))]
theorem dx_8 {σ : pS} (c0 : Nat) (h0 : c0 ≤ 100) : ∀ (d i fu : Nat), i + d = 8 → d < fu → f_X_differing_29_67_p4 fu ((c0 + dC (σ 29) (σ 67) i : Nat) : Int) (i : Int) σ = some (((c0 + dC (σ 29) (σ 67) 8 : Nat) : Int), σ)
  | 0, i, fu, hi, hf => by
    obtain ⟨n, rfl⟩ : ∃ n, fu = n + 1 := ⟨fu - 1, by omega⟩
    obtain rfl : i = 8 := by omega
    show (if (8 : Int) ≤ ((8 : Nat) : Int) then _ else _) = _
    rw [if_pos (by decide)]
  | d + 1, i, fu, hi, hf => by
    obtain ⟨n, rfl⟩ : ∃ n, fu = n + 1 := ⟨fu - 1, by omega⟩
    have ih := dx_8 (σ := σ) c0 h0 d (i + 1) n (by omega) (by omega)
    have g : (0 : Int) ≤ (i : Int) ∧ (i : Int) < 8 := by omega
    have hl := dC_le (σ 29) (σ 67) i
    have hc : c0 + dC (σ 29) (σ 67) i < 1000 := by omega
    have iL : i < 8 := by omega
    have k1 : ¬ (8 : Int) ≤ (i : Int) := by omega
    show (if (8 : Int) ≤ (i : Int) then _ else _) = _
    rw [if_neg k1, if_neg k1, if_pos g, if_pos g, Int.toNat_natCast, pw_s iL (by decide), pw_s hc (by decide)]
    by_cases z : σ 29 i = σ 67 i
    · rw [if_pos z]
      have e : dC (σ 29) (σ 67) (i + 1) = dC (σ 29) (σ 67) i := if_pos z
      rw [e] at ih
      exact ih
    · rw [if_neg z]
      have e : dC (σ 29) (σ 67) (i + 1) = dC (σ 29) (σ 67) i + 1 := if_neg z
      rw [e] at ih
      exact ih
theorem dx_64 {σ : pS} (c0 : Nat) (h0 : c0 ≤ 100) : ∀ (d i fu : Nat), i + d = 64 → d < fu → f_X_differing_30_68_p4 fu ((c0 + dC (σ 30) (σ 68) i : Nat) : Int) (i : Int) σ = some (((c0 + dC (σ 30) (σ 68) 64 : Nat) : Int), σ)
  | 0, i, fu, hi, hf => by
    obtain ⟨n, rfl⟩ : ∃ n, fu = n + 1 := ⟨fu - 1, by omega⟩
    obtain rfl : i = 64 := by omega
    show (if (64 : Int) ≤ ((64 : Nat) : Int) then _ else _) = _
    rw [if_pos (by decide)]
  | d + 1, i, fu, hi, hf => by
    obtain ⟨n, rfl⟩ : ∃ n, fu = n + 1 := ⟨fu - 1, by omega⟩
    have ih := dx_64 (σ := σ) c0 h0 d (i + 1) n (by omega) (by omega)
    have g : (0 : Int) ≤ (i : Int) ∧ (i : Int) < 64 := by omega
    have hl := dC_le (σ 30) (σ 68) i
    have hc : c0 + dC (σ 30) (σ 68) i < 1000 := by omega
    have iL : i < 64 := by omega
    have k1 : ¬ (64 : Int) ≤ (i : Int) := by omega
    show (if (64 : Int) ≤ (i : Int) then _ else _) = _
    rw [if_neg k1, if_neg k1, if_pos g, if_pos g, Int.toNat_natCast, pw_s iL (by decide), pw_s hc (by decide)]
    by_cases z : σ 30 i = σ 68 i
    · rw [if_pos z]
      have e : dC (σ 30) (σ 68) (i + 1) = dC (σ 30) (σ 68) i := if_pos z
      rw [e] at ih
      exact ih
    · rw [if_neg z]
      have e : dC (σ 30) (σ 68) (i + 1) = dC (σ 30) (σ 68) i + 1 := if_neg z
      rw [e] at ih
      exact ih
theorem dm_8 {σ : pS} (c0 : Nat) (h0 : c0 ≤ 100) : ∀ (d i fu : Nat), i + d = 8 → d < fu → f_M_unlike_84_p30 fu ((c0 + dC (σ 130) (σ 140) i : Nat) : Int) (i : Int) σ = f_M_unlike_84_p63 4096 ((c0 + dC (σ 130) (σ 140) 8 : Nat) : Int) 0 σ
  | 0, i, fu, hi, hf => by
    obtain ⟨n, rfl⟩ : ∃ n, fu = n + 1 := ⟨fu - 1, by omega⟩
    obtain rfl : i = 8 := by omega
    show (if (8 : Int) ≤ ((8 : Nat) : Int) then _ else _) = _
    rw [if_pos (by decide)]
  | d + 1, i, fu, hi, hf => by
    obtain ⟨n, rfl⟩ : ∃ n, fu = n + 1 := ⟨fu - 1, by omega⟩
    have ih := dm_8 (σ := σ) c0 h0 d (i + 1) n (by omega) (by omega)
    have g : (0 : Int) ≤ (i : Int) ∧ (i : Int) < 8 := by omega
    have hl := dC_le (σ 130) (σ 140) i
    have hc : c0 + dC (σ 130) (σ 140) i < 1000 := by omega
    have iL : i < 8 := by omega
    have k1 : ¬ (8 : Int) ≤ (i : Int) := by omega
    show (if (8 : Int) ≤ (i : Int) then _ else _) = _
    rw [if_neg k1, if_pos g, if_pos g, Int.toNat_natCast, pw_s iL (by decide), pw_s hc (by decide)]
    by_cases z : σ 130 i = σ 140 i
    · rw [if_pos z]
      have e : dC (σ 130) (σ 140) (i + 1) = dC (σ 130) (σ 140) i := if_pos z
      rw [e] at ih
      exact ih
    · rw [if_neg z]
      have e : dC (σ 130) (σ 140) (i + 1) = dC (σ 130) (σ 140) i + 1 := if_neg z
      rw [e] at ih
      exact ih
theorem dm_64 {σ : pS} (c0 : Nat) (h0 : c0 ≤ 100) : ∀ (d i fu : Nat), i + d = 64 → d < fu → f_M_unlike_84_p63 fu ((c0 + dC (σ 128) (σ 141) i : Nat) : Int) (i : Int) σ = some (((c0 + dC (σ 128) (σ 141) 64 : Nat) : Int), σ)
  | 0, i, fu, hi, hf => by
    obtain ⟨n, rfl⟩ : ∃ n, fu = n + 1 := ⟨fu - 1, by omega⟩
    obtain rfl : i = 64 := by omega
    show (if (64 : Int) ≤ ((64 : Nat) : Int) then _ else _) = _
    rw [if_pos (by decide)]
  | d + 1, i, fu, hi, hf => by
    obtain ⟨n, rfl⟩ : ∃ n, fu = n + 1 := ⟨fu - 1, by omega⟩
    have ih := dm_64 (σ := σ) c0 h0 d (i + 1) n (by omega) (by omega)
    have g : (0 : Int) ≤ (i : Int) ∧ (i : Int) < 64 := by omega
    have hl := dC_le (σ 128) (σ 141) i
    have hc : c0 + dC (σ 128) (σ 141) i < 1000 := by omega
    have iL : i < 64 := by omega
    have k1 : ¬ (64 : Int) ≤ (i : Int) := by omega
    show (if (64 : Int) ≤ (i : Int) then _ else _) = _
    rw [if_neg k1, if_pos g, if_pos g, Int.toNat_natCast, pw_s iL (by decide), pw_s hc (by decide)]
    by_cases z : σ 128 i = σ 141 i
    · rw [if_pos z]
      have e : dC (σ 128) (σ 141) (i + 1) = dC (σ 128) (σ 141) i := if_pos z
      rw [e] at ih
      exact ih
    · rw [if_neg z]
      have e : dC (σ 128) (σ 141) (i + 1) = dC (σ 128) (σ 141) i + 1 := if_neg z
      rw [e] at ih
      exact ih
section HB
variable {N m : Nat} {rec : Nat → O8} {σ τ σ' τ' : pS}
theorem w_unlike (a : Int) (h : WR N σ τ) : ∃ v σ' τ', f_X_unlike_0 a σ = some (v, σ') ∧ f_M_unlike_84 a τ = some (v, τ') ∧ WS N σ τ σ' τ' := by
  obtain ⟨m, rec, hG⟩ := h.2.1.pg
  unfold f_X_unlike_0 f_M_unlike_84
  rw [x_can hG.cm, m_can hG.mm, Option.bind_some, Option.bind_some]
  dsimp only
  by_cases g : (1 ≤ a ∧ a ≤ 4) ∧ 0 < m
  · rw [if_pos g, if_neg (show ¬ (1 : Int) = 0 by decide), if_neg (show ¬ (1 : Int) = 0 by decide)]
    obtain ⟨σ1, τ1, q1, q2, q0, q3⟩ := it_ls (w := a) (Or.inl rfl) hG h
    rcases q3 with ⟨r1, r2⟩ | ⟨t, r1, r2, r3, -, r5, r6, -⟩
    · rw [r1, r2, Option.bind_some, Option.bind_some]
      exact ⟨-5, σ1, τ1, rfl, rfl, ⟨q2.mono (by omega), q0⟩⟩
    · rw [r1, r2, Option.bind_some, Option.bind_some]
      dsimp only
      rw [if_neg (show ¬ t = -5 by omega), if_neg (show ¬ (1 : Int) = 0 by decide)]
      obtain ⟨m1, rec1, hG1⟩ := q2.2.1.pg
      obtain ⟨σ2, τ2, p1, p2, p3, p4, p5, p6, -⟩ := gpl_ls hG1 q2.2.2.2.1
      have c1 : f_X_differing_29_67 σ2 = some (((0 + dC (σ2 29) (σ2 67) 8 : Nat) : Int), σ2) := dx_8 0 (by decide) 8 0 4096 (by omega) (by omega)
      have c2 : f_X_differing_30_68 σ2 = some (((0 + dC (σ2 30) (σ2 68) 64 : Nat) : Int), σ2) := dx_64 0 (by decide) 64 0 4096 (by omega) (by omega)
      have l8 := dC_le (τ2 130) (τ2 140) 8
      have l64 := dC_le (τ2 128) (τ2 141) 64
      have c3 : f_M_unlike_84_p30 4096 0 0 τ2 = f_M_unlike_84_p63 4096 ((0 + dC (τ2 130) (τ2 140) 8 : Nat) : Int) 0 τ2 := dm_8 0 (by decide) 8 0 4096 (by omega) (by omega)
      have c4 : f_M_unlike_84_p63 4096 ((0 + dC (τ2 130) (τ2 140) 8 : Nat) : Int) 0 τ2 = some (((0 + dC (τ2 130) (τ2 140) 8 + dC (τ2 128) (τ2 141) 64 : Nat) : Int), τ2) := dm_64 (0 + dC (τ2 130) (τ2 140) 8) (by omega) 64 0 4096 (by omega) (by omega)
      have e1 : dC (σ2 29) (σ2 67) 8 = dC (τ2 130) (τ2 140) 8 := dC_cg 8 (fun j hj => by rw [p3.get (by unfold Ppl; omega), p4.get (by unfold Qpl; omega)]; exact r5 j hj) p5
      have e2 : dC (σ2 30) (σ2 68) 64 = dC (τ2 128) (τ2 141) 64 := dC_cg 64 (fun j hj => by rw [p3.get (by unfold Ppl; omega), p4.get (by unfold Qpl; omega)]; exact r6 j hj) p6
      rw [p1, p2, Option.bind_some, Option.bind_some]
      dsimp only
      rw [c1, Option.bind_some]
      dsimp only
      rw [c2, Option.bind_some, c3, c4, e1, e2]
      dsimp only
      have ep : pw (((0 + dC (τ2 130) (τ2 140) 8 : Nat) : Int) + ((0 + dC (τ2 128) (τ2 141) 64 : Nat) : Int)) = ((0 + dC (τ2 130) (τ2 140) 8 + dC (τ2 128) (τ2 141) 64 : Nat) : Int) := by
        rw [pw_id (by omega) (by omega)]
        omega
      rw [ep]
      have z1 : XOf σ1 σ2 := XOf.of p3 (fun k x z => by unfold Ppl at z; omega)
      have z2 : MOf τ1 τ2 := MOf.of p4 (fun k x z => by unfold Qpl at z; omega)
      exact ⟨_, σ2, τ2, rfl, rfl, q2.q (p3.eq Ppl_A) (p4.eq Qpl_A), fun k x y z => (z1 k x y z).trans (q0.1 k x y z), fun k x y => (z2 k x y).trans (q0.2 k x y)⟩
  · rw [if_neg g, if_pos rfl, if_pos rfl]
    exact ⟨_, _, _, rfl, rfl, h.sm⟩
theorem pAnd_63d (a : Int) (h0 : -2147483648 ≤ a) (h1 : a ≤ 2147483647) : pAnd (pw a) 63 = a % 64 := pAnd_63e a
/-- a load and a store share a byte, in the reference -/
theorem hv_lp {i k sl ss : Nat} {pl ps : Int} (hi : i < 20) (hk : k < 20) (hl : τ 93 i = (sl : Int)) (hs : τ 93 k = (ss : Int)) (sl4 : sl ≤ 4) (h1 : τ 142 i = pl) (h2 : τ 142 k = ps) (b1 : 0 ≤ pl ∧ pl < 64) (b2 : 0 ≤ ps ∧ ps < 64) : ∀ (d e fu : Nat), e + d = sl → d < fu → ∃ b : Int, f_M_haveByte_84_p2 fu (i : Int) (k : Int) (e : Int) τ = some (b, τ) ∧ ((b = 1 ∧ ∃ x : Nat, e ≤ x ∧ x < sl ∧ (pl + (x : Int) - ps) % 64 < (ss : Int)) ∨ (b = 0 ∧ ¬ ∃ x : Nat, e ≤ x ∧ x < sl ∧ (pl + (x : Int) - ps) % 64 < (ss : Int)))
  | 0, e, fu, he, hf => by
    obtain ⟨n, rfl⟩ : ∃ n, fu = n + 1 := ⟨fu - 1, by omega⟩
    have g : (0 : Int) ≤ (i : Int) ∧ (i : Int) < 20 := by omega
    refine ⟨0, ?_, Or.inr ⟨rfl, ?_⟩⟩
    · show (if (0 : Int) ≤ (i : Int) ∧ (i : Int) < 20 then _ else _) = _
      rw [if_pos g, Int.toNat_natCast, hl, if_pos (by omega)]
    · rintro ⟨x, x1, x2, -⟩
      omega
  | d + 1, e, fu, he, hf => by
    obtain ⟨n, rfl⟩ : ∃ n, fu = n + 1 := ⟨fu - 1, by omega⟩
    have g : (0 : Int) ≤ (i : Int) ∧ (i : Int) < 20 := by omega
    have gk : (0 : Int) ≤ (k : Int) ∧ (k : Int) < 20 := by omega
    have he4 : e < 4 := by omega
    have k1 : ¬ (sl : Int) ≤ (e : Int) := by omega
    obtain ⟨b, q1, q2⟩ := hv_lp hi hk hl hs sl4 h1 h2 b1 b2 d (e + 1) n (by omega) (by omega)
    have ew : pw (pl + (e : Int)) = pl + (e : Int) := pw_id (by omega) (by omega)
    have eX : f_M_haveByte_84_p2 (n + 1) (i : Int) (k : Int) (e : Int) τ = (if (ss : Int) ≤ (pl + (e : Int) - ps) % 64 then f_M_haveByte_84_p2 n (i : Int) (k : Int) ((e + 1 : Nat) : Int) τ else some (1, τ)) := by
      show (if (0 : Int) ≤ (i : Int) ∧ (i : Int) < 20 then _ else _) = _
      rw [if_pos g, Int.toNat_natCast, hl, if_neg k1, if_pos g, if_pos gk, if_pos gk, Int.toNat_natCast, hs, h1, h2, ew, pAnd_63e, pw_s he4 (by decide)]
    clear ew
    rw [eX]
    by_cases z : (ss : Int) ≤ (pl + (e : Int) - ps) % 64
    · rw [if_pos z]
      refine ⟨b, q1, ?_⟩
      rcases q2 with ⟨y1, x, x1, x2, x3⟩ | ⟨y1, y2⟩
      · exact Or.inl ⟨y1, x, by omega, x2, x3⟩
      · refine Or.inr ⟨y1, ?_⟩
        rintro ⟨x, x1, x2, x3⟩
        by_cases hx : x = e
        · rw [hx] at x3; omega
        · exact y2 ⟨x, by omega, x2, x3⟩
    · rw [if_neg z]
      exact ⟨1, rfl, Or.inl ⟨rfl, e, Nat.le_refl _, by omega, by omega⟩⟩
theorem x_cov (p s a : Int) (σ : pS) : f_X_covers p s a σ = some (if (a - p) % 64 < s then 1 else 0, σ) := by
  unfold f_X_covers
  rw [pAnd_63e]
  by_cases z : s ≤ (a - p) % 64
  · rw [if_pos z, if_neg (by omega)]
  · rw [if_neg z, if_pos (by omega)]
theorem meet_ls (hG : PG m rec σ τ) (h : PLr m σ τ) {i k : Nat} (hi : i < m) (hk : k < m) (ki : σ 5 i = 2) (kk : σ 5 k = 3) : ∃ b : Int, f_Plain_meet_65_4 (i : Int) (k : Int) σ = some (b, σ) ∧ f_M_haveByte_84 (i : Int) (k : Int) τ = some (b, τ) := by
  have hm := hG.le
  have i20 : i < 20 := by omega
  have k20 : k < 20 := by omega
  have g : (0 : Int) ≤ (i : Int) ∧ (i : Int) < 20 := by omega
  have gk : (0 : Int) ≤ (k : Int) ∧ (k : Int) < 20 := by omega
  obtain ⟨z1, z2⟩ := hG.sz hi (by omega)
  obtain ⟨y1, y2⟩ := hG.sz hk (by omega)
  obtain ⟨p1, p2, p3⟩ := h.2.2 i hi (by omega)
  obtain ⟨r1, r2, r3⟩ := h.2.2 k hk (by omega)
  obtain ⟨sl, hsl⟩ : ∃ s : Nat, σ 7 i = (s : Int) := ⟨(σ 7 i).toNat, by omega⟩
  obtain ⟨ss, hss⟩ : ∃ s : Nat, σ 7 k = (s : Int) := ⟨(σ 7 k).toNat, by omega⟩
  have sl4 : sl ≤ 4 := by omega
  have sl1 : 1 ≤ sl := by omega
  have ss1 : 1 ≤ ss := by omega
  obtain ⟨b, q1, q2⟩ := hv_lp (τ := τ) (i := i) (k := k) (sl := sl) (ss := ss) (pl := σ 70 i) (ps := σ 70 k) i20 k20 (z1.trans hsl) (y1.trans hss) sl4 p1.symm r1.symm ⟨p2, p3⟩ ⟨r2, r3⟩ sl 0 4096 (by omega) (by omega)
  have q1 : f_M_haveByte_84 (i : Int) (k : Int) τ = some (b, τ) := q1
  refine ⟨b, ?_, q1⟩
  have eX : f_Plain_meet_65_4 (i : Int) (k : Int) σ = (if (σ 70 i - σ 70 k) % 64 < (ss : Int) then some (1, σ) else (if (σ 70 k - σ 70 i) % 64 < (sl : Int) then some (1, σ) else some (0, σ))) := by
    unfold f_Plain_meet_65_4
    simp only [if_pos g, if_pos gk, Int.toNat_natCast, x_cov, Option.bind_some, hsl, hss]
    by_cases w : (σ 70 i - σ 70 k) % 64 < (ss : Int)
    · rw [if_pos w, if_neg (show ¬ (1 : Int) = 0 by decide), if_pos w]
    · rw [if_neg w, if_pos rfl, if_neg w]
      by_cases w2 : (σ 70 k - σ 70 i) % 64 < (sl : Int)
      · rw [if_pos w2, if_neg (show ¬ (1 : Int) = 0 by decide), if_pos w2]
      · rw [if_neg w2, if_pos rfl, if_neg w2]
  rw [eX]
  clear eX q1
  generalize σ 70 i = pl at *
  generalize σ 70 k = ps at *
  rcases q2 with ⟨w1, x, x1, x2, x3⟩ | ⟨w1, w2⟩
  · rw [w1]
    by_cases w : (pl - ps) % 64 < (ss : Int)
    · rw [if_pos w]
    · rw [if_neg w, if_pos (by omega)]
  · rw [w1]
    have n1 : ¬ (pl - ps) % 64 < (ss : Int) := fun w => w2 ⟨0, Nat.le_refl _, by omega, by
      have e : pl + ((0 : Nat) : Int) - ps = pl - ps := by omega
      rw [e]
      exact w⟩
    have n2 : ¬ (ps - pl) % 64 < (sl : Int) := fun w => w2 ⟨((ps - pl) % 64).toNat, Nat.zero_le _, by omega, by omega⟩
    rw [if_neg n1, if_neg n2]
theorem mx_in (hG : PG m rec σ τ) (h : PLr m σ τ) {K1 K2 : Int → Int → pS → Option (Int × pS)} {i : Nat} (hi : i < m) : ∀ (d k fu1 fu2 c : Nat), k + d = i → d < fu1 → d < fu2 → c + d ≤ 1000 → ∃ c' : Nat, c' ≤ c + d ∧ f_Plain_sharedBytes_65_4_p15 K1 fu1 (c : Int) (i : Int) (k : Int) σ = K1 (c' : Int) ((i + 1 : Nat) : Int) σ ∧ f_M_mix_84_p18 K2 fu2 (c : Int) (i : Int) (k : Int) τ = K2 (c' : Int) ((i + 1 : Nat) : Int) τ
  | 0, k, fu1, fu2, c, hk, h1, h2, hc => by
    obtain ⟨n1, rfl⟩ : ∃ n, fu1 = n + 1 := ⟨fu1 - 1, by omega⟩
    obtain ⟨n2, rfl⟩ : ∃ n, fu2 = n + 1 := ⟨fu2 - 1, by omega⟩
    have hm := hG.le
    have i20 : i < 20 := by omega
    refine ⟨c, by omega, ?_, ?_⟩
    · show (if (i : Int) ≤ (k : Int) then _ else _) = _
      rw [if_pos (by omega), pw_s i20 (by decide)]
    · show (if (i : Int) ≤ (k : Int) then _ else _) = _
      rw [if_pos (by omega), pw_s i20 (by decide)]
  | d + 1, k, fu1, fu2, c, hk, h1, h2, hc => by
    obtain ⟨n1, rfl⟩ : ∃ n, fu1 = n + 1 := ⟨fu1 - 1, by omega⟩
    obtain ⟨n2, rfl⟩ : ∃ n, fu2 = n + 1 := ⟨fu2 - 1, by omega⟩
    have hm := hG.le
    have i20 : i < 20 := by omega
    have k20 : k < 20 := by omega
    have c1k : c < 1000 := by omega
    have g : (0 : Int) ≤ (i : Int) ∧ (i : Int) < 20 := by omega
    have gk : (0 : Int) ≤ (k : Int) ∧ (k : Int) < 20 := by omega
    have nk : ¬ (i : Int) ≤ (k : Int) := by omega
    have kd := (hG.kd hi).1
    have kdk := (hG.kd (show k < m by omega)).1
    obtain ⟨ca, a0, a1, a2⟩ := mx_in hG h (K1 := K1) (K2 := K2) hi d (k + 1) n1 n2 c (by omega) (by omega) (by omega) (by omega)
    obtain ⟨cb, b0, b1, b2⟩ := mx_in hG h (K1 := K1) (K2 := K2) hi d (k + 1) n1 n2 (c + 1) (by omega) (by omega) (by omega) (by omega)
    have eX : f_Plain_sharedBytes_65_4_p15 K1 (n1 + 1) (c : Int) (i : Int) (k : Int) σ = (if σ 5 i = 2 then (if σ 5 k = 3 then ((f_Plain_meet_65_4 (i : Int) (k : Int) σ).bind fun q7 => (if q7.1 = 0 then f_Plain_sharedBytes_65_4_p15 K1 n1 (c : Int) (i : Int) ((k + 1 : Nat) : Int) q7.2 else f_Plain_sharedBytes_65_4_p15 K1 n1 ((c + 1 : Nat) : Int) (i : Int) ((k + 1 : Nat) : Int) q7.2)) else f_Plain_sharedBytes_65_4_p15 K1 n1 (c : Int) (i : Int) ((k + 1 : Nat) : Int) σ) else f_Plain_sharedBytes_65_4_p15 K1 n1 (c : Int) (i : Int) ((k + 1 : Nat) : Int) σ) := by
      show (if (i : Int) ≤ (k : Int) then _ else _) = _
      rw [if_neg nk, if_pos g, if_pos gk, Int.toNat_natCast, Int.toNat_natCast, pw_s k20 (by decide), pw_s c1k (by decide)]
    have eM : f_M_mix_84_p18 K2 (n2 + 1) (c : Int) (i : Int) (k : Int) τ = (if σ 5 i = 2 then (if σ 5 k = 3 then ((f_M_haveByte_84 (i : Int) (k : Int) τ).bind fun q8 => (if q8.1 = 0 then f_M_mix_84_p18 K2 n2 (c : Int) (i : Int) ((k + 1 : Nat) : Int) q8.2 else f_M_mix_84_p18 K2 n2 ((c + 1 : Nat) : Int) (i : Int) ((k + 1 : Nat) : Int) q8.2)) else f_M_mix_84_p18 K2 n2 (c : Int) (i : Int) ((k + 1 : Nat) : Int) τ) else f_M_mix_84_p18 K2 n2 (c : Int) (i : Int) ((k + 1 : Nat) : Int) τ) := by
      show (if (i : Int) ≤ (k : Int) then _ else _) = _
      rw [if_neg nk, if_pos g, if_pos gk, Int.toNat_natCast, Int.toNat_natCast, pw_s k20 (by decide), pw_s c1k (by decide), kd, kdk]
    rw [eX, eM]
    by_cases z1 : σ 5 i = 2
    · rw [if_pos z1, if_pos z1]
      by_cases z2 : σ 5 k = 3
      · obtain ⟨b, m1, m2⟩ := meet_ls hG h hi (show k < m by omega) z1 z2
        rw [if_pos z2, if_pos z2, m1, m2, Option.bind_some, Option.bind_some]
        dsimp only
        by_cases z3 : b = 0
        · rw [if_pos z3, if_pos z3]
          exact ⟨ca, by omega, a1, a2⟩
        · rw [if_neg z3, if_neg z3]
          exact ⟨cb, by omega, b1, b2⟩
      · rw [if_neg z2, if_neg z2]
        exact ⟨ca, by omega, a1, a2⟩
    · rw [if_neg z1, if_neg z1]
      exact ⟨ca, by omega, a1, a2⟩
theorem mx_lp (hG : PG m rec σ τ) (h : PLr m σ τ) : ∀ (d i fu1 fu2 c : Nat), i + d = m → d < fu1 → d < fu2 → c ≤ 20 * i → ∃ v, f_Plain_sharedBytes_65_4_p4 fu1 (c : Int) (i : Int) σ = some (v, σ) ∧ f_M_mix_84_p8 fu2 (c : Int) (i : Int) τ = some (v, τ)
  | 0, i, fu1, fu2, c, hi, h1, h2, hc => by
    obtain ⟨n1, rfl⟩ : ∃ n, fu1 = n + 1 := ⟨fu1 - 1, by omega⟩
    obtain ⟨n2, rfl⟩ : ∃ n, fu2 = n + 1 := ⟨fu2 - 1, by omega⟩
    have e1 := hG.cm
    have e2 := hG.mm
    refine ⟨(c : Int), ?_, ?_⟩
    · show (if σ 4 11 ≤ (i : Int) then _ else _) = _
      rw [if_pos (by omega)]
    · show (if τ 84 2 ≤ (i : Int) then _ else _) = _
      rw [if_pos (by omega)]
  | d + 1, i, fu1, fu2, c, hi, h1, h2, hc => by
    obtain ⟨n1, rfl⟩ : ∃ n, fu1 = n + 1 := ⟨fu1 - 1, by omega⟩
    obtain ⟨n2, rfl⟩ : ∃ n, fu2 = n + 1 := ⟨fu2 - 1, by omega⟩
    have hm := hG.le
    have e1 := hG.cm
    have e2 := hG.mm
    have nX : ¬ σ 4 11 ≤ (i : Int) := by omega
    have nM : ¬ τ 84 2 ≤ (i : Int) := by omega
    obtain ⟨c', a0, a1, a2⟩ := mx_in hG h (K1 := f_Plain_sharedBytes_65_4_p4 n1) (K2 := f_M_mix_84_p8 n2) (show i < m by omega) i 0 4096 4096 c (by omega) (by omega) (by omega) (by omega)
    have a1 : f_Plain_sharedBytes_65_4_p15 (f_Plain_sharedBytes_65_4_p4 n1) 4096 (c : Int) (i : Int) 0 σ = f_Plain_sharedBytes_65_4_p4 n1 (c' : Int) ((i + 1 : Nat) : Int) σ := a1
    have a2 : f_M_mix_84_p18 (f_M_mix_84_p8 n2) 4096 (c : Int) (i : Int) 0 τ = f_M_mix_84_p8 n2 (c' : Int) ((i + 1 : Nat) : Int) τ := a2
    obtain ⟨v, q1, q2⟩ := mx_lp hG h d (i + 1) n1 n2 c' (by omega) (by omega) (by omega) (by omega)
    refine ⟨v, ?_, ?_⟩
    · show (if σ 4 11 ≤ (i : Int) then _ else _) = _
      rw [if_neg nX, a1]
      exact q1
    · show (if τ 84 2 ≤ (i : Int) then _ else _) = _
      rw [if_neg nM, a2]
      exact q2
theorem w_mix (h : WR N σ τ) : ∃ v σ' τ', f_X_mix_0 σ = some (v, σ') ∧ f_M_mix_84 τ = some (v, τ') ∧ WS N σ τ σ' τ' := by
  obtain ⟨m, rec, hG⟩ := h.2.1.pg
  have hm := hG.le
  obtain ⟨σ1, τ1, q1, q2, q3, q4, q5⟩ := gpl_ls hG h.2.2.2.1
  have hG1 : PG m rec σ1 τ1 := hG.q (q3.eq (fun k x z => by unfold Ppl at z; unfold wcP; omega)) (q4.eq (fun k x z => by unfold Qpl at z; unfold wmP; omega))
  obtain ⟨v, p1, p2⟩ := mx_lp hG1 q5 m 0 4096 4096 0 (by omega) (by omega) (by omega) (by omega)
  have p1 : f_Plain_sharedBytes_65_4 σ1 = some (v, σ1) := p1
  have p2 : f_M_mix_84_p8 4096 0 0 τ1 = some (v, τ1) := p2
  unfold f_X_mix_0 f_M_mix_84
  rw [q1, q2, Option.bind_some, Option.bind_some]
  dsimp only
  rw [p1, p2, Option.bind_some]
  exact ⟨v, σ1, τ1, rfl, rfl, WS.of q3 q4 (fun k x z => by unfold Ppl at z; omega) (fun k x z => by unfold Qpl at z; omega) (h.q (q3.eq Ppl_A) (q4.eq Qpl_A))⟩
end HB
