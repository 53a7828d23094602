def dgt (T : Nat → Int) (n p : Int) : Prop := 48 ≤ hd T n p ∧ hd T n p ≤ 57
def nm (T : Nat → Int) (n : Int) : Nat → Int → Int → (Int × Int) ⊕ Int
  | 0, v, p => if 48 ≤ hd T n p ∧ hd T n p ≤ 57 then .inr (-1000 * 2 - p) else .inl (v, p)
  | r + 1, v, p => if 48 ≤ hd T n p ∧ hd T n p ≤ 57 then nm T n r (10 * v + (hd T n p - 48)) (p + 1) else .inl (v, p)
theorem nm_0t {T : Nat → Int} {n v p : Int} (h : 48 ≤ hd T n p ∧ hd T n p ≤ 57) : nm T n 0 v p = .inr (-1000 * 2 - p) := if_pos h
theorem nm_f {T : Nat → Int} {n v p : Int} {r : Nat} (h : ¬ (48 ≤ hd T n p ∧ hd T n p ≤ 57)) : nm T n r v p = .inl (v, p) := by
  cases r with
  | zero => exact if_neg h
  | succ r => exact if_neg h
theorem nm_t {T : Nat → Int} {n v p : Int} {r : Nat} (h : 48 ≤ hd T n p ∧ hd T n p ≤ 57) : nm T n (r + 1) v p = nm T n r (10 * v + (hd T n p - 48)) (p + 1) := if_pos h
def p10 : Nat → Int
  | 0 => 1
  | k + 1 => 10 * p10 k
theorem p10_pos : ∀ r, 1 ≤ p10 r
  | 0 => by decide
  | r + 1 => by have := p10_pos r; show 1 ≤ 10 * p10 r; omega
theorem p10_le {v : Int} {r m : Nat} (hv : 0 ≤ v) (h : (v + 1) * p10 r ≤ p10 m) : v + 1 ≤ p10 m := by
  have h1 := p10_pos r
  have h2 : (v + 1) * 1 ≤ (v + 1) * p10 r := Int.mul_le_mul_of_nonneg_left h1 (by omega)
  omega
theorem p10_st {v d : Int} {r m : Nat} (hd : d ≤ 9) (h : (v + 1) * p10 (r + 1) ≤ p10 m) : (10 * v + d + 1) * p10 r ≤ p10 m := by
  have h1 : (10 * v + d + 1) * p10 r ≤ (10 * (v + 1)) * p10 r := Int.mul_le_mul_of_nonneg_right (by omega) (by have := p10_pos r; omega)
  have h2 : (10 * (v + 1)) * p10 r = (v + 1) * (10 * p10 r) := by rw [Int.mul_comm 10 (v + 1), Int.mul_assoc]
  have h3 : (v + 1) * p10 (r + 1) = (v + 1) * (10 * p10 r) := rfl
  omega
theorem p10_m {m : Nat} (h : m ≤ 5) : p10 m ≤ 100000 := by
  match m, h with
  | 0, _ => decide
  | 1, _ => decide
  | 2, _ => decide
  | 3, _ => decide
  | 4, _ => decide
  | 5, _ => decide
  | k + 6, h => omega
section NUM
variable {T : Nat → Int} {n : Int}
theorem c_p64 {σ : pS} {v p : Int} (h : TP σ T n p) : f_Tape_readDigits_1_p64 v σ = if 48 ≤ hd T n p ∧ hd T n p ≤ 57 then some (-1, pU σ 1 4 (-1000 * 2 - p)) else some (v, σ) := by
  unfold f_Tape_readDigits_1_p64
  rw [c_dig h]
  simp only [Option.bind_some]
  by_cases hg : 48 ≤ hd T n p ∧ hd T n p ≤ 57
  · rw [if_pos hg, if_neg (by decide), c_fail h (by omega), if_pos hg]
    rfl
  · rw [if_neg hg, if_pos rfl, if_neg hg]
theorem c_nm {m : Nat} (hm : m ≤ 5) : ∀ (r : Nat) (v p : Int) (σ : pS) (fu : Nat), TP σ T n p → r ≤ m → 0 ≤ v → (v + 1) * p10 r ≤ p10 m → (r = m → 48 ≤ hd T n p ∧ hd T n p ≤ 57) → 1 ≤ m → r < fu →
    match nm T n r v p with
    | .inl q => ∃ σ', f_Tape_readDigits_1_p4 fu (m : Int) v ((m : Int) - (r : Int)) σ = some (q.1, σ') ∧ TP σ' T n q.2 ∧ CO σ σ' ∧ 0 ≤ q.1 ∧ q.1 + 1 ≤ p10 m ∧ p ≤ q.2
    | .inr f => ∃ σ', f_Tape_readDigits_1_p4 fu (m : Int) v ((m : Int) - (r : Int)) σ = some (-1, σ') ∧ σ' 1 4 = f ∧ CO σ σ' := by
  intro r
  induction r with
  | zero =>
    intro v p σ fu h hr hv hb h4 hm1 hfu
    obtain ⟨fu, rfl⟩ : ∃ k, fu = k + 1 := ⟨fu - 1, by omega⟩
    unfold f_Tape_readDigits_1_p4
    rw [if_pos (by omega), c_p64 h]
    by_cases hg : 48 ≤ hd T n p ∧ hd T n p ≤ 57
    · rw [nm_0t hg]
      try dsimp only
      rw [if_pos hg]
      exact ⟨_, rfl, pU_s _ _ _ _, CO.u _ _⟩
    · rw [nm_f hg]
      try dsimp only
      rw [if_neg hg]
      exact ⟨_, rfl, h, CO.rf _, hv, p10_le hv hb, Int.le_refl _⟩
  | succ r ih =>
    intro v p σ fu h hr hv hb h4 hm1 hfu
    obtain ⟨fu, rfl⟩ : ∃ k, fu = k + 1 := ⟨fu - 1, by omega⟩
    have hvm := p10_le hv hb
    have hmm := p10_m hm
    have h' := h
    obtain ⟨h1, h2, ⟨h3, h3', h5⟩, h6⟩ := h'
    -- a digit's step
    have st : 48 ≤ hd T n p ∧ hd T n p ≤ 57 → f_Tape_readDigits_1_p20 (f_Tape_readDigits_1_p4 fu) (m : Int) v ((m : Int) - ((r + 1 : Nat) : Int)) σ = f_Tape_readDigits_1_p4 fu (m : Int) (10 * v + (hd T n p - 48)) ((m : Int) - (r : Int)) (pU σ 1 3 (p + 1)) := by
      intro hg
      unfold f_Tape_readDigits_1_p20
      rw [c_dig h, if_pos hg]
      simp only [Option.bind_some]
      rw [if_neg (by decide), c_sign h]
      simp only [Option.bind_some]
      rw [pw_id (z := v * 10) (by omega) (by omega), pw_id (z := v * 10 + hd T n p) (by omega) (by omega), pw_id (by omega) (by omega), pw_id (by omega) (by omega), h1, pw_id (by omega) (by omega)]
      rw [show v * 10 + hd T n p - 48 = 10 * v + (hd T n p - 48) by omega, show (m : Int) - ((r + 1 : Nat) : Int) + 1 = (m : Int) - (r : Int) by omega]
    unfold f_Tape_readDigits_1_p4
    rw [if_neg (by omega)]
    by_cases hg : 48 ≤ hd T n p ∧ hd T n p ≤ 57
    · rw [nm_t hg]
      have hp : p < n := hd_in (T := T) (by omega)
      have hi := ih (10 * v + (hd T n p - 48)) (p + 1) (pU σ 1 3 (p + 1)) fu (h.go (by omega) (by omega)) (by omega) (by omega) (p10_st (by omega) hb) (by omega) hm1 (by omega)
      have e : (if ((m : Int) - ((r + 1 : Nat) : Int)) = 0 then f_Tape_readDigits_1_p20 (f_Tape_readDigits_1_p4 fu) (m : Int) v ((m : Int) - ((r + 1 : Nat) : Int)) σ else (f_Tape_digitNext_1 σ).bind fun q10 => if q10.1 = 0 then f_Tape_readDigits_1_p64 v q10.2 else f_Tape_readDigits_1_p20 (f_Tape_readDigits_1_p4 fu) (m : Int) v ((m : Int) - ((r + 1 : Nat) : Int)) q10.2) = f_Tape_readDigits_1_p4 fu (m : Int) (10 * v + (hd T n p - 48)) ((m : Int) - (r : Int)) (pU σ 1 3 (p + 1)) := by
        by_cases hz : ((m : Int) - ((r + 1 : Nat) : Int)) = 0
        · rw [if_pos hz, st hg]
        · rw [if_neg hz, c_dig h, if_pos hg]
          simp only [Option.bind_some]
          rw [if_neg (by decide), st hg]
      rw [e]
      split at hi
      · obtain ⟨σ', a, b, c, d⟩ := hi
        exact ⟨σ', a, b, (CO.u _ _).tr c, d.1, d.2.1, by omega⟩
      · obtain ⟨σ', a, b, c⟩ := hi
        exact ⟨σ', a, b, (CO.u _ _).tr c⟩
    · rw [nm_f hg]
      try dsimp only
      have hz : ¬ ((m : Int) - ((r + 1 : Nat) : Int)) = 0 := fun hz => hg (h4 (by omega))
      rw [if_neg hz, c_dig h, if_neg hg]
      simp only [Option.bind_some]
      rw [if_pos trivial, c_p64 h, if_neg hg]
      exact ⟨_, rfl, h, CO.rf _, hv, hvm, Int.le_refl _⟩
def sNum (T : Nat → Int) (n : Int) (m : Nat) (p : Int) : (Int × Int) ⊕ Int := if 48 ≤ hd T n p ∧ hd T n p ≤ 57 then nm T n m 0 p else .inr (-1000 * 1 - p)
theorem nm_gt {T : Nat → Int} {n : Int} : ∀ (r : Nat) (v p : Int) (q : Int × Int), nm T n r v p = .inl q → p ≤ q.2
  | 0, v, p, q, h => by
    unfold nm at h
    split at h
    · cases h
    · cases h; exact Int.le_refl _
  | r + 1, v, p, q, h => by
    unfold nm at h
    split at h
    · have := nm_gt r _ _ q h; omega
    · cases h; exact Int.le_refl _
theorem sNum_gt {T : Nat → Int} {n : Int} {m : Nat} {p : Int} {q : Int × Int} (hm : 1 ≤ m) (h : sNum T n m p = .inl q) : p < q.2 := by
  unfold sNum at h
  split at h
  · rename_i hg
    obtain ⟨m, rfl⟩ : ∃ k, m = k + 1 := ⟨m - 1, by omega⟩
    unfold nm at h
    rw [if_pos hg] at h
    have := nm_gt m _ _ q h
    omega
  · cases h
theorem c_num {σ : pS} {p : Int} {m : Nat} (hm : m ≤ 5) (hm1 : 1 ≤ m) (h : TP σ T n p) : match sNum T n m p with
    | .inl q => ∃ σ', f_Tape_readDigits_1 (m : Int) σ = some (q.1, σ') ∧ TP σ' T n q.2 ∧ CO σ σ' ∧ 0 ≤ q.1 ∧ q.1 + 1 ≤ p10 m
    | .inr f => ∃ σ', f_Tape_readDigits_1 (m : Int) σ = some (-1, σ') ∧ σ' 1 4 = f ∧ CO σ σ' := by
  unfold sNum f_Tape_readDigits_1
  by_cases hg : 48 ≤ hd T n p ∧ hd T n p ≤ 57
  · rw [if_pos hg]
    have hi := c_nm hm m 0 p σ 4096 h (Nat.le_refl _) (Int.le_refl _) (by rw [Int.zero_add, Int.one_mul]; exact Int.le_refl _) (fun _ => hg) hm1 (by omega)
    rw [show (m : Int) - (m : Int) = 0 by omega] at hi
    split at hi
    · obtain ⟨σ', a, b, c, d⟩ := hi
      exact ⟨σ', a, b, c, d.1, d.2.1⟩
    · exact hi
  · rw [if_neg hg]
    try dsimp only
    refine ⟨pU σ 1 4 (-1000 * 1 - p), ?_, pU_s _ _ _ _, CO.u _ _⟩
    rw [show (4096 : Nat) = 4095 + 1 from rfl]
    unfold f_Tape_readDigits_1_p4
    rw [if_neg (by omega), if_pos rfl]
    unfold f_Tape_readDigits_1_p20
    rw [c_dig h, if_neg hg]
    simp only [Option.bind_some]
    rw [if_pos trivial, c_fail h (by omega)]
    rfl
theorem m_nm4 : ∀ (r : Nat) (v p : Int) (τ : pS) (fu : Nat), TM τ T n p → r ≤ 4 → τ 84 22 = v → 0 ≤ v → (v + 1) * p10 r ≤ p10 4 → (4 : Int) - r ≤ p → r < fu →
    match nm T n r v p with
    | .inl q => ∃ τ', f_M_readsAmount_84_p27 fu (p - (4 - (r : Int))) τ = some (1, τ') ∧ TM τ' T n q.2 ∧ MO τ τ' ∧ τ' 84 22 = q.1
    | .inr f => ∃ τ', f_M_readsAmount_84_p27 fu (p - (4 - (r : Int))) τ = some (0, τ') ∧ τ' 84 21 = f ∧ MO τ τ' := by
  intro r
  induction r with
  | zero =>
    intro v p τ fu h hr hv h0 hb hp4 hfu
    obtain ⟨fu, rfl⟩ : ∃ k, fu = k + 1 := ⟨fu - 1, by omega⟩
    have h' := h
    obtain ⟨h1, h2, ⟨h3, h3', h5⟩, h6⟩ := h'
    unfold f_M_readsAmount_84_p27
    rw [m_dig h]
    simp only [Option.bind_some]
    by_cases hg : 48 ≤ hd T n p ∧ hd T n p ≤ 57
    · rw [nm_0t hg, if_pos hg]
      try dsimp only
      rw [if_neg (by decide), h1, pw_id (by omega) (by omega), if_pos (by omega), m_wrong (by omega) (by omega)]
      exact ⟨pU τ 84 21 (-1000 * 2 - p), rfl, pU_s _ _ _ _, MO.u _ (by omega)⟩
    · rw [nm_f hg, if_neg hg]
      try dsimp only
      rw [if_pos rfl]
      exact ⟨_, rfl, h, MO.rf _, hv⟩
  | succ r ih =>
    intro v p τ fu h hr hv h0 hb hp4 hfu
    obtain ⟨fu, rfl⟩ : ∃ k, fu = k + 1 := ⟨fu - 1, by omega⟩
    have hvm := p10_le h0 hb
    have hmm := p10_m (m := 4) (by omega)
    have h' := h
    obtain ⟨h1, h2, ⟨h3, h3', h5⟩, h6⟩ := h'
    unfold f_M_readsAmount_84_p27
    rw [m_dig h]
    simp only [Option.bind_some]
    by_cases hg : 48 ≤ hd T n p ∧ hd T n p ≤ 57
    · have hp : p < n := hd_in (T := T) (by omega)
      rw [nm_t hg, if_pos hg]
      try dsimp only
      rw [if_neg (by decide), h1, pw_id (z := p - (4 - ((r + 1 : Nat) : Int)) + 4) (by omega) (by omega), if_neg (by omega), m_here h]
      simp only [Option.bind_some]
      rw [h1, hv, pw_id (z := 10 * v) (by omega) (by omega), pw_id (z := 10 * v + hd T n p) (by omega) (by omega), pw_id (z := 10 * v + hd T n p - 48) (by omega) (by omega), pw_id (z := p + 1) (by omega) (by omega)]
      have hi := ih (10 * v + (hd T n p - 48)) (p + 1) (pU (pU τ 84 22 (10 * v + hd T n p - 48)) 84 19 (p + 1)) fu (h.at (pU_s _ _ _ _) ((pU_i _ _ _ _ (by decide)).trans (pU_i _ _ _ _ (by decide))) (fun i => (pU_c _ _ _ _ (by decide)).trans (pU_c _ _ _ _ (by decide))) (by omega) (by omega)) (by omega) (((pU_i _ _ _ _ (by decide)).trans (pU_s _ _ _ _)).trans (by omega)) (by omega) (p10_st (by omega) hb) (by omega) (by omega)
      rw [show p + 1 - (4 - (r : Int)) = p - (4 - ((r + 1 : Nat) : Int)) by omega] at hi
      have hM : MO τ (pU (pU τ 84 22 (10 * v + hd T n p - 48)) 84 19 (p + 1)) := (MO.u _ (by omega)).tr (MO.u _ (by omega))
      split at hi
      · obtain ⟨τ', a, b, c, d⟩ := hi
        exact ⟨τ', a, b, hM.tr c, d⟩
      · obtain ⟨τ', a, b, c⟩ := hi
        exact ⟨τ', a, b, hM.tr c⟩
    · rw [nm_f hg, if_neg hg]
      try dsimp only
      rw [if_pos rfl]
      exact ⟨_, rfl, h, MO.rf _, hv⟩
theorem m_num {τ : pS} {p : Int} (h : TM τ T n p) : match sNum T n 4 p with
    | .inl q => ∃ τ', f_M_readsAmount_84 τ = some (1, τ') ∧ TM τ' T n q.2 ∧ MO τ τ' ∧ τ' 84 22 = q.1
    | .inr f => ∃ τ', f_M_readsAmount_84 τ = some (0, τ') ∧ τ' 84 21 = f ∧ MO τ τ' := by
  have h' := h
  obtain ⟨h1, h2, ⟨h3, h3', h5⟩, h6⟩ := h'
  unfold sNum f_M_readsAmount_84
  rw [m_dig h]
  simp only [Option.bind_some]
  by_cases hg : 48 ≤ hd T n p ∧ hd T n p ≤ 57
  · rw [if_pos hg, if_pos hg]
    try dsimp only
    rw [if_neg (by decide), h1]
    have hi := m_nm4 4 0 p (pU τ 84 22 0) 4096 (h.at ((pU_i _ _ _ _ (by decide)).trans h1) (pU_i _ _ _ _ (by decide)) (fun i => pU_c _ _ _ _ (by decide)) h3 h3') (Nat.le_refl _) (pU_s _ _ _ _) (Int.le_refl _) (by decide) (by omega) (by omega)
    rw [show p - (4 - ((4 : Nat) : Int)) = p by omega] at hi
    split at hi
    · obtain ⟨τ', a, b, c, d⟩ := hi
      exact ⟨τ', a, b, (MO.u _ (by omega)).tr c, d⟩
    · obtain ⟨τ', a, b, c⟩ := hi
      exact ⟨τ', a, b, (MO.u _ (by omega)).tr c⟩
  · rw [if_neg hg, if_neg hg]
    try dsimp only
    rw [if_pos rfl, h1, m_wrong (by omega) (by omega)]
    exact ⟨pU τ 84 21 (-1000 * 1 - p), rfl, pU_s _ _ _ _, MO.u _ (by omega)⟩
end NUM
