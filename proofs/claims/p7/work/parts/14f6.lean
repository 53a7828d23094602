/-- the numbers i to n - 1 of a put into b -/
def pCp (σ : pS) (a b i n : Nat) : pS := fun k x => if k = b ∧ i ≤ x ∧ x < n then σ a x else σ k x
theorem pCp_e {σ : pS} {a b n : Nat} : pCp σ a b n n = σ := by
  funext k x
  unfold pCp
  rw [if_neg (by omega)]
theorem pCp_s {σ : pS} {a b i n : Nat} (hab : a ≠ b) (h : i < n) : pCp (pU σ b i (σ a i)) a b (i + 1) n = pCp σ a b i n := by
  funext k x
  unfold pCp
  by_cases z : k = b ∧ i ≤ x ∧ x < n
  · rw [if_pos z]
    by_cases y : x = i
    · rw [if_neg (by omega), z.1, y, pU_s]
    · rw [if_pos (by omega), pU_c _ _ _ _ hab]
  · rw [if_neg z, if_neg (by omega)]
    unfold pU
    rw [if_neg (by omega)]
theorem pCp_d {σ : pS} {a b i n x : Nat} (h1 : i ≤ x) (h2 : x < n) : pCp σ a b i n b x = σ a x := if_pos ⟨rfl, h1, h2⟩
theorem pCp_o {σ : pS} {a b i n k x : Nat} (h : k ≠ b) : pCp σ a b i n k x = σ k x := if_neg (fun e => h e.1)
theorem FR.cp {P : Nat → Nat → Prop} {σ : pS} {a b i n : Nat} (h : ∀ x, x < n → P b x) : FR P σ (pCp σ a b i n) := fun k x => by
  by_cases z : k = b ∧ i ≤ x ∧ x < n
  · rw [z.1]; exact Or.inl (h x z.2.2)
  · exact Or.inr (if_neg z)
theorem kp_39 : ∀ (d i fu : Nat) (τ : pS), i + d = 8 → d < fu → f_M_keep_84_p39 fu (i : Int) τ = f_M_keep_84_p65 4096 0 (pCp τ 85 146 i 8)
  | 0, i, fu, τ, hi, hf => by
    obtain ⟨n, rfl⟩ : ∃ n, fu = n + 1 := ⟨fu - 1, by omega⟩
    obtain rfl : i = 8 := by omega
    rw [pCp_e]
    show (if (8 : Int) ≤ ((8 : Nat) : Int) then _ else _) = _
    rw [if_pos (by decide)]
  | d + 1, i, fu, τ, hi, hf => by
    obtain ⟨n, rfl⟩ : ∃ n, fu = n + 1 := ⟨fu - 1, by omega⟩
    have g : (0 : Int) ≤ (i : Int) ∧ (i : Int) < 8 := by omega
    have iL : i < 8 := by omega
    have k1 : ¬ (8 : Int) ≤ (i : Int) := by omega
    have ih := kp_39 d (i + 1) n (pU τ 146 i (τ 85 i)) (by omega) (by omega)
    show (if (8 : Int) ≤ (i : Int) then _ else _) = _
    rw [if_neg k1, if_pos g, if_pos g, Int.toNat_natCast, pw_s iL (by decide), ih, pCp_s (by decide) iL]
theorem kp_65 : ∀ (d i fu : Nat) (τ : pS), i + d = 64 → d < fu → f_M_keep_84_p65 fu (i : Int) τ = f_M_keep_84_p91 4096 0 (pCp τ 86 147 i 64)
  | 0, i, fu, τ, hi, hf => by
    obtain ⟨n, rfl⟩ : ∃ n, fu = n + 1 := ⟨fu - 1, by omega⟩
    obtain rfl : i = 64 := by omega
    rw [pCp_e]
    show (if (64 : Int) ≤ ((64 : Nat) : Int) then _ else _) = _
    rw [if_pos (by decide)]
  | d + 1, i, fu, τ, hi, hf => by
    obtain ⟨n, rfl⟩ : ∃ n, fu = n + 1 := ⟨fu - 1, by omega⟩
    have g : (0 : Int) ≤ (i : Int) ∧ (i : Int) < 64 := by omega
    have iL : i < 64 := by omega
    have k1 : ¬ (64 : Int) ≤ (i : Int) := by omega
    have ih := kp_65 d (i + 1) n (pU τ 147 i (τ 86 i)) (by omega) (by omega)
    show (if (64 : Int) ≤ (i : Int) then _ else _) = _
    rw [if_neg k1, if_pos g, if_pos g, Int.toNat_natCast, pw_s iL (by decide), ih, pCp_s (by decide) iL]
theorem kp_91 : ∀ (d i fu : Nat) (τ : pS), i + d = 20 → d < fu → f_M_keep_84_p91 fu (i : Int) τ = some ((pCp τ 87 148 i 20) 84 1, (pCp τ 87 148 i 20))
  | 0, i, fu, τ, hi, hf => by
    obtain ⟨n, rfl⟩ : ∃ n, fu = n + 1 := ⟨fu - 1, by omega⟩
    obtain rfl : i = 20 := by omega
    rw [pCp_e]
    show (if (20 : Int) ≤ ((20 : Nat) : Int) then _ else _) = _
    rw [if_pos (by decide)]
  | d + 1, i, fu, τ, hi, hf => by
    obtain ⟨n, rfl⟩ : ∃ n, fu = n + 1 := ⟨fu - 1, by omega⟩
    have g : (0 : Int) ≤ (i : Int) ∧ (i : Int) < 20 := by omega
    have iL : i < 20 := by omega
    have k1 : ¬ (20 : Int) ≤ (i : Int) := by omega
    have ih := kp_91 d (i + 1) n (pU τ 148 i (τ 87 i)) (by omega) (by omega)
    show (if (20 : Int) ≤ (i : Int) then _ else _) = _
    rw [if_neg k1, if_pos g, if_pos g, Int.toNat_natCast, pw_s iL (by decide), ih, pCp_s (by decide) iL]
theorem un_27 : ∀ (d i fu : Nat) (τ : pS), i + d = 8 → d < fu → f_M_undo_84_p27 fu (i : Int) τ = f_M_undo_84_p53 4096 0 (pCp τ 146 85 i 8)
  | 0, i, fu, τ, hi, hf => by
    obtain ⟨n, rfl⟩ : ∃ n, fu = n + 1 := ⟨fu - 1, by omega⟩
    obtain rfl : i = 8 := by omega
    rw [pCp_e]
    show (if (8 : Int) ≤ ((8 : Nat) : Int) then _ else _) = _
    rw [if_pos (by decide)]
  | d + 1, i, fu, τ, hi, hf => by
    obtain ⟨n, rfl⟩ : ∃ n, fu = n + 1 := ⟨fu - 1, by omega⟩
    have g : (0 : Int) ≤ (i : Int) ∧ (i : Int) < 8 := by omega
    have iL : i < 8 := by omega
    have k1 : ¬ (8 : Int) ≤ (i : Int) := by omega
    have ih := un_27 d (i + 1) n (pU τ 85 i (τ 146 i)) (by omega) (by omega)
    show (if (8 : Int) ≤ (i : Int) then _ else _) = _
    rw [if_neg k1, if_pos g, if_pos g, Int.toNat_natCast, pw_s iL (by decide), ih, pCp_s (by decide) iL]
theorem un_53 : ∀ (d i fu : Nat) (τ : pS), i + d = 64 → d < fu → f_M_undo_84_p53 fu (i : Int) τ = (if ((pCp τ 147 86 i 64) 84 89) = ((pCp τ 147 86 i 64) 84 5) then (f_M_undo_84_p100 4096 0 (pU (pCp τ 147 86 i 64) 84 3 ((pCp τ 147 86 i 64) 84 90))) else (some (1, (pCp τ 147 86 i 64))))
  | 0, i, fu, τ, hi, hf => by
    obtain ⟨n, rfl⟩ : ∃ n, fu = n + 1 := ⟨fu - 1, by omega⟩
    obtain rfl : i = 64 := by omega
    rw [pCp_e]
    show (if (64 : Int) ≤ ((64 : Nat) : Int) then _ else _) = _
    rw [if_pos (by decide)]
  | d + 1, i, fu, τ, hi, hf => by
    obtain ⟨n, rfl⟩ : ∃ n, fu = n + 1 := ⟨fu - 1, by omega⟩
    have g : (0 : Int) ≤ (i : Int) ∧ (i : Int) < 64 := by omega
    have iL : i < 64 := by omega
    have k1 : ¬ (64 : Int) ≤ (i : Int) := by omega
    have ih := un_53 d (i + 1) n (pU τ 86 i (τ 147 i)) (by omega) (by omega)
    show (if (64 : Int) ≤ (i : Int) then _ else _) = _
    rw [if_neg k1, if_pos g, if_pos g, Int.toNat_natCast, pw_s iL (by decide), ih, pCp_s (by decide) iL]
theorem un_100 : ∀ (d i fu : Nat) (τ : pS), i + d = 20 → d < fu → f_M_undo_84_p100 fu (i : Int) τ = some (1, (pCp τ 148 87 i 20))
  | 0, i, fu, τ, hi, hf => by
    obtain ⟨n, rfl⟩ : ∃ n, fu = n + 1 := ⟨fu - 1, by omega⟩
    obtain rfl : i = 20 := by omega
    rw [pCp_e]
    show (if (20 : Int) ≤ ((20 : Nat) : Int) then _ else _) = _
    rw [if_pos (by decide)]
  | d + 1, i, fu, τ, hi, hf => by
    obtain ⟨n, rfl⟩ : ∃ n, fu = n + 1 := ⟨fu - 1, by omega⟩
    have g : (0 : Int) ≤ (i : Int) ∧ (i : Int) < 20 := by omega
    have iL : i < 20 := by omega
    have k1 : ¬ (20 : Int) ≤ (i : Int) := by omega
    have ih := un_100 d (i + 1) n (pU τ 87 i (τ 148 i)) (by omega) (by omega)
    show (if (20 : Int) ≤ (i : Int) then _ else _) = _
    rw [if_neg k1, if_pos g, if_pos g, Int.toNat_natCast, pw_s iL (by decide), ih, pCp_s (by decide) iL]
def wkc (k x : Nat) : Prop := (k = 0 ∧ (x = 9 ∨ x = 10)) ∨ (78 ≤ k ∧ k ≤ 81)
def wkm (k x : Nat) : Prop := (k = 84 ∧ 88 ≤ x ∧ x ≤ 92) ∨ (146 ≤ k ∧ k ≤ 148)
def wuc (k x : Nat) : Prop := (25 ≤ k ∧ k ≤ 27) ∨ (k = 24 ∧ 3 ≤ x ∧ x ≤ 5)
def wum (k x : Nat) : Prop := (85 ≤ k ∧ k ≤ 87) ∨ (k = 84 ∧ (x = 0 ∨ x = 1 ∨ x = 3))
section H6
variable {N : Nat} {σ τ σ' τ' : pS}
theorem w_keep (h : WR N σ τ) : ∃ v σ' τ', f_X_keep_0 σ = some (v, σ') ∧ f_M_keep_84 τ = some (v, τ') ∧ WS N σ τ σ' τ' := by
  obtain ⟨m, rec, hG⟩ := h.2.1.pg
  have hm := hG.le
  have e11 := hG.cm
  obtain ⟨a1, a2, a3, a4, a5, a6, a7, a8⟩ := h
  obtain ⟨s1, s2, s3, s4, s5, s6, s7⟩ := a4
  obtain ⟨σ1, e1⟩ : ∃ s, pU (pU (pU (pKp (pU (pU (pKp (pKp σ 25 79 8) 26 80 64) 78 4 (σ 24 4)) 78 5 (σ 24 5)) 27 81 20) 78 3 (σ 24 3)) 0 9 1) 0 10 0 = s := ⟨_, rfl⟩
  obtain ⟨t0, d0⟩ : ∃ t, pU (pU (pU (pU (pU τ 84 88 1) 84 89 (τ 84 5)) 84 90 (τ 84 3)) 84 91 (τ 84 1)) 84 92 (τ 84 0) = t := ⟨_, rfl⟩
  obtain ⟨τ1, d1⟩ : ∃ t, pCp (pCp (pCp t0 85 146 0 8) 86 147 0 64) 87 148 0 20 = t := ⟨_, rfl⟩
  have f1 : FR wkc σ σ1 := by
    rw [← e1]
    refine FR.tr ?_ (FR.u (by unfold wkc; omega))
    refine FR.tr ?_ (FR.u (by unfold wkc; omega))
    refine FR.tr ?_ (FR.u (by unfold wkc; omega))
    refine FR.tr ?_ (FR.kp (fun x _ => by unfold wkc; omega))
    refine FR.tr ?_ (FR.u (by unfold wkc; omega))
    refine FR.tr ?_ (FR.u (by unfold wkc; omega))
    refine FR.tr ?_ (FR.kp (fun x _ => by unfold wkc; omega))
    exact FR.kp (fun x _ => by unfold wkc; omega)
  have g0 : FR wkm τ t0 := by
    rw [← d0]
    refine FR.tr ?_ (FR.u (by unfold wkm; omega))
    refine FR.tr ?_ (FR.u (by unfold wkm; omega))
    refine FR.tr ?_ (FR.u (by unfold wkm; omega))
    refine FR.tr ?_ (FR.u (by unfold wkm; omega))
    exact FR.u (by unfold wkm; omega)
  have f2 : FR wkm τ τ1 := by
    rw [← d1]
    refine g0.tr ?_
    refine FR.tr ?_ (FR.cp (fun x _ => by unfold wkm; omega))
    refine FR.tr ?_ (FR.cp (fun x _ => by unfold wkm; omega))
    exact FR.cp (fun x _ => by unfold wkm; omega)
  have q84 : ∀ x, τ1 84 x = t0 84 x := fun x => by
    rw [← d1, pCp_o (by decide), pCp_o (by decide), pCp_o (by decide)]
  refine ⟨σ 24 4, σ1, τ1, ?_, ?_, WS.of (f1) (f2) (fun k x z => by unfold wkc at z; omega) (fun k x z => by unfold wkm at z; omega) ⟨a1.q ((f1).eq (fun k x z => by unfold wkc at z; unfold wcT; omega)) ((f2).eq (fun k x z => by unfold wkm at z; unfold wmT; omega)), a2.q ((f1).eq (fun k x z => by unfold wkc at z; unfold wcP; omega)) ((f2).eq (fun k x z => by unfold wkm at z; unfold wmP; omega)), a3.q ((f1).eq (fun k x z => by unfold wkc at z; unfold wcL; omega)) ((f2).eq (fun k x z => by unfold wkm at z; unfold wmL; omega)), SRx.q ⟨s1, s2, s3, s4, s5, s6, s7⟩ (f1.eq (fun k x z => by unfold wkc at z; unfold wcS; omega)) (f2.eq (fun k x z => by unfold wkm at z; unfold wmS; omega)), a5.q ((f1).eq (fun k x z => by unfold wkc at z; unfold wcR; omega)) ((f2).eq (fun k x z => by unfold wkm at z; unfold wmR; omega)), ?_, a7.q ((f1).eq (fun k x z => by unfold wkc at z; unfold wcW; omega)) ((f2).eq (fun k x z => by unfold wkm at z; unfold wmW; omega)), a8.q ((f2).get (by unfold wkm; omega))⟩⟩
  · rw [← e1]
    unfold f_X_keep_0 f_State_copyFrom_78_24 f_State_copyCellsFrom_78_24 f_State_copySetsFrom_78_24
    rfl
  · unfold f_M_keep_84
    rw [d0]
    have k1 : f_M_keep_84_p39 4096 0 t0 = _ := kp_39 8 0 4096 t0 (by omega) (by omega)
    have k2 : f_M_keep_84_p65 4096 0 (pCp t0 85 146 0 8) = _ := kp_65 64 0 4096 _ (by omega) (by omega)
    have k3 : f_M_keep_84_p91 4096 0 (pCp (pCp t0 85 146 0 8) 86 147 0 64) = _ := kp_91 20 0 4096 _ (by omega) (by omega)
    rw [k1, k2, k3, d1, f2.get (by unfold wkm; omega), s7.1]
  · have x9 : σ1 0 9 = 1 := by rw [← e1]; simp [pU]
    have x10 : σ1 0 10 = 0 := by rw [← e1]; simp [pU]
    have y88 : τ1 84 88 = 1 := by rw [q84, ← d0]; simp [pU]
    have y89 : τ1 84 89 = τ 84 5 := by rw [q84, ← d0]; simp [pU]
    have y90 : τ1 84 90 = τ 84 3 := by rw [q84, ← d0]; simp [pU]
    have y91 : τ1 84 91 = τ 84 1 := by rw [q84, ← d0]; simp [pU]
    have y92 : τ1 84 92 = τ 84 0 := by rw [q84, ← d0]; simp [pU]
    have y5 : τ1 84 5 = τ 84 5 := f2.get (by unfold wkm; omega)
    have x11 : σ1 4 11 = σ 4 11 := f1.get (by unfold wkc; omega)
    have x783 : σ1 78 3 = σ 24 3 := by rw [← e1]; simp [pU]
    have x784 : σ1 78 4 = σ 24 4 := by rw [← e1]; simp [pU, pKp]
    have x785 : σ1 78 5 = σ 24 5 := by rw [← e1]; simp [pU, pKp]
    have x81 : ∀ j, j < 20 → σ1 81 j = σ 27 j := fun j hj => by rw [← e1]; simp [pU, pKp, hj]
    have o : ∀ k x, k < 146 → k ≠ 84 → t0 k x = τ k x := fun k x h1 h2 => g0.get (by unfold wkm; omega)
    refine ⟨by rw [x9, y88], fun _ => ⟨fun r hr => ?_, fun x hx => ?_, ?_, ?_, Or.inl ⟨x10, by rw [y89, y5], fun j hj => ?_, fun j hj => ?_, ?_⟩⟩⟩
    · rw [← d1, pCp_o (by decide), pCp_o (by decide), pCp_d (by omega) hr, o 85 r (by decide) (by decide), ← s1 r hr, ← e1]
      simp [pU, pKp, hr]
    · rw [← d1, pCp_o (by decide), pCp_d (by omega) hx, pCp_o (by decide), o 86 x (by decide) (by decide), ← s2 x hx, ← e1]
      simp [pU, pKp, hx]
    · rw [x784, y91]; exact s7
    · rw [x785, y92]; exact s6
    · rw [x11] at hj
      rw [x81 j (by omega), ← d1, pCp_d (by omega) (by omega), pCp_o (by decide), pCp_o (by decide), o 87 j (by decide) (by decide)]
      exact s3 j hj
    · rw [x81 j hj, x11]; exact s4 j hj
    · rw [x783, y90]; exact s5
theorem w_undo (h : WR N σ τ) : ∃ v σ' τ', f_X_undo_0 σ = some (v, σ') ∧ f_M_undo_84 τ = some (v, τ') ∧ WS N σ τ σ' τ' := by
  obtain ⟨m, rec, hG⟩ := h.2.1.pg
  have hm := hG.le
  have e11 := hG.cm
  have hh := h
  obtain ⟨a1, a2, a3, a4, a5, a6, a7, a8⟩ := h
  obtain ⟨k0, k1⟩ := a6
  by_cases z : σ 0 9 = 0
  · refine ⟨0, σ, τ, ?_, ?_, hh.sm⟩
    · unfold f_X_undo_0
      rw [if_pos z]
    · unfold f_M_undo_84
      rw [if_pos (by rw [← k0]; exact z)]
  · obtain ⟨c1, c2, c3, c4, c5⟩ := k1 z
    obtain ⟨s1, s2, s3, s4, s5, s6, s7⟩ := a4
    obtain ⟨σ1, e1⟩ : ∃ s, pU (pU (pKp (pKp σ 79 25 8) 80 26 64) 24 4 (σ 78 4)) 24 5 (σ 78 5) = s := ⟨_, rfl⟩
    obtain ⟨t0, d0⟩ : ∃ t, pU (pU τ 84 1 (τ 84 91)) 84 0 (τ 84 92) = t := ⟨_, rfl⟩
    obtain ⟨t1, d1⟩ : ∃ t, pCp (pCp t0 146 85 0 8) 147 86 0 64 = t := ⟨_, rfl⟩
    have f1 : FR wuc σ σ1 := by
      rw [← e1]
      refine FR.tr ?_ (FR.u (by unfold wuc; omega))
      refine FR.tr ?_ (FR.u (by unfold wuc; omega))
      refine FR.tr ?_ (FR.kp (fun x _ => by unfold wuc; omega))
      exact FR.kp (fun x _ => by unfold wuc; omega)
    have g0 : FR wum τ t0 := by
      rw [← d0]
      refine FR.tr ?_ (FR.u (by unfold wum; omega))
      exact FR.u (by unfold wum; omega)
    have f2 : FR wum τ t1 := by
      rw [← d1]
      refine g0.tr ?_
      refine FR.tr ?_ (FR.cp (fun x _ => by unfold wum; omega))
      exact FR.cp (fun x _ => by unfold wum; omega)
    have q84 : ∀ x, t1 84 x = t0 84 x := fun x => by
      rw [← d1, pCp_o (by decide), pCp_o (by decide)]
    have o : ∀ k x, k ≠ 84 → t0 k x = τ k x := fun k x h2 => by rw [← d0, pU_c _ _ _ _ h2, pU_c _ _ _ _ h2]
    have y1 : t1 84 1 = τ 84 91 := by rw [q84, ← d0]; simp [pU]
    have y0 : t1 84 0 = τ 84 92 := by rw [q84, ← d0]; simp [pU]
    have x4 : σ1 24 4 = σ 78 4 := by rw [← e1]; simp [pU]
    have x5 : σ1 24 5 = σ 78 5 := by rw [← e1]; simp [pU]
    have r1 : ∀ r, r < 8 → σ1 25 r = t1 85 r := fun r hr => by
      rw [← d1, pCp_o (by decide), pCp_d (by omega) hr, o 146 r (by decide), ← c1 r hr, ← e1]
      simp [pU, pKp, hr]
    have r2 : ∀ x, x < 64 → σ1 26 x = t1 86 x := fun x hx => by
      rw [← d1, pCp_d (by omega) hx, pCp_o (by decide), o 147 x (by decide), ← c2 x hx, ← e1]
      simp [pU, pKp, hx]
    have eX : f_X_undo_0 σ = (if σ 0 10 = 0 then some (1, pU (pKp σ1 81 27 20) 24 3 (σ 78 3)) else some (1, σ1)) := by
      unfold f_X_undo_0 f_State_copyCellsFrom_24_78
      rw [if_neg z, e1, Option.bind_some]
      dsimp only
      unfold f_State_copySetsFrom_24_78
      simp only [Option.bind_some, f1.get (show ¬ wuc 0 10 by unfold wuc; omega), f1.get (show ¬ wuc 78 3 by unfold wuc; omega)]
    have eM : f_M_undo_84 τ = (if τ 84 89 = τ 84 5 then some (1, pCp (pU t1 84 3 (τ 84 90)) 148 87 0 20) else some (1, t1)) := by
      unfold f_M_undo_84
      rw [if_neg (by rw [← k0]; exact z), d0]
      have u1 : f_M_undo_84_p27 4096 0 t0 = _ := un_27 8 0 4096 t0 (by omega) (by omega)
      have u2 : f_M_undo_84_p53 4096 0 (pCp t0 146 85 0 8) = _ := un_53 64 0 4096 _ (by omega) (by omega)
      rw [u1, u2, d1]
      have u3 : ∀ s, f_M_undo_84_p100 4096 0 s = some (1, pCp s 148 87 0 20) := fun s => un_100 20 0 4096 s (by omega) (by omega)
      simp only [u3, f2.get (show ¬ wum 84 89 by unfold wum; omega), f2.get (show ¬ wum 84 5 by unfold wum; omega), f2.get (show ¬ wum 84 90 by unfold wum; omega)]
    rw [eX, eM]
    rcases c5 with ⟨n10, n89, u3, u4, u5⟩ | ⟨n10, n89⟩
    · rw [if_pos n10, if_pos n89]
      obtain ⟨σ2, e2⟩ : ∃ s, pU (pKp σ1 81 27 20) 24 3 (σ 78 3) = s := ⟨_, rfl⟩
      obtain ⟨t2, d2⟩ : ∃ t, pCp (pU t1 84 3 (τ 84 90)) 148 87 0 20 = t := ⟨_, rfl⟩
      have h1 : FR wuc σ σ2 := by
        rw [← e2]
        exact (f1.tr (FR.kp (fun x _ => by unfold wuc; omega))).tr (FR.u (by unfold wuc; omega))
      have h2 : FR wum τ t2 := by
        rw [← d2]
        exact (f2.tr (FR.u (by unfold wum; omega))).tr (FR.cp (fun x _ => by unfold wum; omega))
      rw [e2, d2]
      have x27 : ∀ j, j < 20 → σ2 27 j = σ 81 j := fun j hj => by
        rw [← e2, pU_c _ _ _ _ (by decide), pKp_d hj, f1.get (by unfold wuc; omega)]
      refine ⟨1, σ2, t2, rfl, rfl, WS.of (h1) (h2) (fun k x z => by unfold wuc at z; omega) (fun k x z => by unfold wum at z; omega) ⟨a1.q ((h1).eq (fun k x z => by unfold wuc at z; unfold wcT; omega)) ((h2).eq (fun k x z => by unfold wum at z; unfold wmT; omega)), a2.q ((h1).eq (fun k x z => by unfold wuc at z; unfold wcP; omega)) ((h2).eq (fun k x z => by unfold wum at z; unfold wmP; omega)), a3.q ((h1).eq (fun k x z => by unfold wuc at z; unfold wcL; omega)) ((h2).eq (fun k x z => by unfold wum at z; unfold wmL; omega)), ?_, a5.q ((h1).eq (fun k x z => by unfold wuc at z; unfold wcR; omega)) ((h2).eq (fun k x z => by unfold wum at z; unfold wmR; omega)), KPR.q ⟨k0, k1⟩ (h1.eq (fun k x z => by unfold wuc at z; unfold wcK; omega)) (h2.eq (fun k x z => by unfold wum at z; unfold wmK; omega)), a7.q ((h1).eq (fun k x z => by unfold wuc at z; unfold wcW; omega)) ((h2).eq (fun k x z => by unfold wum at z; unfold wmW; omega)), a8.q ((h2).get (by unfold wum; omega))⟩⟩
      refine ⟨fun r hr => ?_, fun x hx => ?_, fun j hj => ?_, fun j hj => ?_, ?_, ?_, ?_⟩
      · rw [← e2, ← d2, pU_c _ _ _ _ (by decide), pKp_o (by decide), pCp_o (by decide), pU_c _ _ _ _ (by decide)]; exact r1 r hr
      · rw [← e2, ← d2, pU_c _ _ _ _ (by decide), pKp_o (by decide), pCp_o (by decide), pU_c _ _ _ _ (by decide)]; exact r2 x hx
      · rw [h1.get (by unfold wuc; omega)] at hj
        rw [x27 j (by omega), ← d2, pCp_d (by omega) (by omega), pU_c _ _ _ _ (by decide), f2.get (by unfold wum; omega)]
        exact u3 j hj
      · rw [x27 j hj, h1.get (k := 4) (by unfold wuc; omega)]; exact u4 j hj
      · rw [← e2, ← d2, pU_s, pCp_o (by decide), pU_s]; exact u5
      · rw [← e2, ← d2, pU_i _ _ _ _ (by decide), pKp_o (by decide), pCp_o (by decide), pU_i _ _ _ _ (by decide), x5, y0]; exact c4
      · rw [← e2, ← d2, pU_i _ _ _ _ (by decide), pKp_o (by decide), pCp_o (by decide), pU_i _ _ _ _ (by decide), x4, y1]; exact c3
    · rw [if_neg n10, if_neg (by omega)]
      refine ⟨1, σ1, t1, rfl, rfl, WS.of (f1) (f2) (fun k x z => by unfold wuc at z; omega) (fun k x z => by unfold wum at z; omega) ⟨a1.q ((f1).eq (fun k x z => by unfold wuc at z; unfold wcT; omega)) ((f2).eq (fun k x z => by unfold wum at z; unfold wmT; omega)), a2.q ((f1).eq (fun k x z => by unfold wuc at z; unfold wcP; omega)) ((f2).eq (fun k x z => by unfold wum at z; unfold wmP; omega)), a3.q ((f1).eq (fun k x z => by unfold wuc at z; unfold wcL; omega)) ((f2).eq (fun k x z => by unfold wum at z; unfold wmL; omega)), ?_, a5.q ((f1).eq (fun k x z => by unfold wuc at z; unfold wcR; omega)) ((f2).eq (fun k x z => by unfold wum at z; unfold wmR; omega)), KPR.q ⟨k0, k1⟩ (f1.eq (fun k x z => by unfold wuc at z; unfold wcK; omega)) (f2.eq (fun k x z => by unfold wum at z; unfold wmK; omega)), a7.q ((f1).eq (fun k x z => by unfold wuc at z; unfold wcW; omega)) ((f2).eq (fun k x z => by unfold wum at z; unfold wmW; omega)), a8.q ((f2).get (by unfold wum; omega))⟩⟩
      have v27 : ∀ j, σ1 27 j = σ 27 j := fun j => by rw [← e1, pU_c _ _ _ _ (by decide), pU_c _ _ _ _ (by decide), pKp_o (by decide), pKp_o (by decide)]
      have v87 : ∀ j, t1 87 j = τ 87 j := fun j => by rw [← d1, pCp_o (by decide), pCp_o (by decide), o 87 j (by decide)]
      refine ⟨r1, r2, fun j hj => ?_, fun j hj => ?_, ?_, ?_, ?_⟩
      · rw [f1.get (by unfold wuc; omega)] at hj
        rw [v27, v87]; exact s3 j hj
      · rw [v27, f1.get (k := 4) (by unfold wuc; omega)]; exact s4 j hj
      · rw [← e1, pU_i _ _ _ _ (by decide), pU_i _ _ _ _ (by decide), pKp_o (by decide), pKp_o (by decide), q84, ← d0, pU_i _ _ _ _ (by decide), pU_i _ _ _ _ (by decide)]; exact s5
      · rw [x5, y0]; exact c4
      · rw [x4, y1]; exact c3
end H6
