theorem pw_id {z : Int} (h1 : -2147483648 ≤ z) (h2 : z < 2147483648) : pw z = z := Int.bmod_eq_of_le (by omega) (by omega)
theorem pU_s (σ : pS) (j i : Nat) (v : Int) : pU σ j i v j i = v := if_pos ⟨rfl, rfl⟩
theorem pU_c (σ : pS) {j k : Nat} (i : Nat) (v : Int) (x : Nat) (h : k ≠ j) : pU σ j i v k x = σ k x := if_neg (fun e => h e.1)
theorem pU_i (σ : pS) (j : Nat) {i x : Nat} (v : Int) (k : Nat) (h : x ≠ i) : pU σ j i v k x = σ k x := if_neg (fun e => h e.2)
/-- the text's signs -/
def hd (T : Nat → Int) (n p : Int) : Int := if p < n then T p.toNat else -1
def TB (T : Nat → Int) (n : Int) : Prop := ∀ i : Nat, (i : Int) < n → 0 ≤ T i ∧ T i ≤ 255
def TP (σ : pS) (T : Nat → Int) (n p : Int) : Prop := σ 1 3 = p ∧ σ 1 2 = n ∧ (0 ≤ p ∧ p ≤ n ∧ n ≤ 240) ∧ ∀ i : Nat, (i : Int) < n → σ 2 i = T i
def TM (τ : pS) (T : Nat → Int) (n p : Int) : Prop := τ 84 19 = p ∧ τ 84 20 = n ∧ (0 ≤ p ∧ p ≤ n ∧ n ≤ 240) ∧ ∀ i : Nat, (i : Int) < n → pAnd (τ 96 i) 255 = T i
theorem hd_in {T : Nat → Int} {n p : Int} (h : hd T n p ≠ -1) : p < n := by
  unfold hd at h
  by_cases hp : p < n
  · exact hp
  · rw [if_neg hp] at h
    exact absurd rfl h
theorem hd_rng {T : Nat → Int} {n p : Int} (hT : TB T n) (hp : 0 ≤ p) : -1 ≤ hd T n p ∧ hd T n p ≤ 255 := by
  unfold hd
  by_cases h : p < n
  · rw [if_pos h]
    have := hT p.toNat (by omega)
    omega
  · rw [if_neg h]
    omega
/-- nothing but the tape's cell has changed -/
def CO (σ σ' : pS) : Prop := ∀ k x, k ≠ 1 → σ' k x = σ k x
/-- nothing of the reference has changed but place, fault, number -/
def MO (τ τ' : pS) : Prop := (∀ k x, k ≠ 84 → τ' k x = τ k x) ∧ ∀ x, x ≠ 19 → x ≠ 21 → x ≠ 22 → τ' 84 x = τ 84 x
theorem CO.rf (σ : pS) : CO σ σ := fun _ _ _ => rfl
theorem CO.tr {a b c : pS} (h1 : CO a b) (h2 : CO b c) : CO a c := fun k x h => (h2 k x h).trans (h1 k x h)
theorem MO.rf (σ : pS) : MO σ σ := ⟨fun _ _ _ => rfl, fun _ _ _ _ => rfl⟩
theorem MO.tr {a b c : pS} (h1 : MO a b) (h2 : MO b c) : MO a c := ⟨fun k x h => (h2.1 k x h).trans (h1.1 k x h), fun x a b c => (h2.2 x a b c).trans (h1.2 x a b c)⟩
section TPs
variable {σ τ : pS} {T : Nat → Int} {n p : Int}
theorem TP.go (h : TP σ T n p) {q : Int} (h0 : 0 ≤ q) (h1 : q ≤ n) : TP (pU σ 1 3 q) T n q := by
  obtain ⟨a, b, c, d⟩ := h
  refine ⟨pU_s _ _ _ _, (pU_i _ _ _ _ (by decide)).trans b, ⟨h0, h1, c.2.2⟩, fun i hi => (pU_c _ _ _ _ (by decide)).trans (d i hi)⟩
theorem TP.at (h : TP σ T n p) {σ' : pS} {q : Int} (h3 : σ' 1 3 = q) (h2 : σ' 1 2 = σ 1 2) (hb : ∀ i, σ' 2 i = σ 2 i) (h0 : 0 ≤ q) (h1 : q ≤ n) : TP σ' T n q := by
  obtain ⟨a, b, c, d⟩ := h
  exact ⟨h3, h2.trans b, ⟨h0, h1, c.2.2⟩, fun i hi => (hb i).trans (d i hi)⟩
theorem TM.at (h : TM τ T n p) {τ' : pS} {q : Int} (h3 : τ' 84 19 = q) (h2 : τ' 84 20 = τ 84 20) (hb : ∀ i, τ' 96 i = τ 96 i) (h0 : 0 ≤ q) (h1 : q ≤ n) : TM τ' T n q := by
  obtain ⟨a, b, c, d⟩ := h
  exact ⟨h3, h2.trans b, ⟨h0, h1, c.2.2⟩, fun i hi => by rw [hb i]; exact d i hi⟩
theorem CO.u (i : Nat) (v : Int) : CO σ (pU σ 1 i v) := fun k x h => pU_c _ _ _ _ h
theorem MO.u {i : Nat} (v : Int) (h : i = 19 ∨ i = 21 ∨ i = 22) : MO τ (pU τ 84 i v) := ⟨fun k x h => pU_c _ _ _ _ h, fun x a b c => pU_i _ _ _ _ (by omega)⟩
theorem c_sign (h : TP σ T n p) : f_Tape_sign_1 σ = some (hd T n p, σ) := by
  obtain ⟨h1, h2, ⟨h3, h4, h5⟩, h6⟩ := h
  unfold f_Tape_sign_1 hd
  rw [h1, h2, if_neg (by omega)]
  by_cases hp : n ≤ p
  · rw [if_pos hp, if_neg (by omega)]
  · rw [if_neg hp, if_neg (by omega), if_pos (by omega), if_pos (by omega), h6 p.toNat (by omega)]
theorem m_here (h : TM τ T n p) : f_M_here_84 τ = some (hd T n p, τ) := by
  obtain ⟨h1, h2, ⟨h3, h4, h5⟩, h6⟩ := h
  unfold f_M_here_84 hd
  rw [h1, h2]
  by_cases hp : n ≤ p
  · rw [if_pos hp, if_neg (by omega)]
  · rw [if_neg hp, if_pos (by omega), if_pos (by omega), h6 p.toNat (by omega)]
theorem ft_eq {k p : Int} (hk : 0 ≤ k ∧ k ≤ 9) (hp : 0 ≤ p ∧ p ≤ 1000) : pw (pw ((-1000) * k) - p) = -1000 * k - p := by
  rw [pw_id (z := (-1000) * k) (by omega) (by omega), pw_id (by omega) (by omega)]
theorem c_fail (h : TP σ T n p) {k : Int} (hk : 0 ≤ k ∧ k ≤ 9) : f_Tape_fail_1 k σ = some (0, pU σ 1 4 (-1000 * k - p)) := by
  obtain ⟨h1, h2, ⟨h3, h4, h5⟩, h6⟩ := h
  unfold f_Tape_fail_1
  rw [h1, ft_eq hk (by omega)]
theorem m_wrong {k p : Int} (hk : 0 ≤ k ∧ k ≤ 9) (hp : 0 ≤ p ∧ p ≤ 1000) : f_M_wrongAt_84 k p τ = some (0, pU τ 84 21 (-1000 * k - p)) := by
  unfold f_M_wrongAt_84
  rw [ft_eq hk hp]
theorem c_acc1 (h : TP σ T n p) {c : Int} (hc : hd T n p = c) (h0 : c ≠ -1) : ∃ σ', f_Tape_accept_1 c σ = some (1, σ') ∧ TP σ' T n (p + 1) ∧ CO σ σ' := by
  have hp := hd_in (hc ▸ h0)
  have h' := h
  obtain ⟨h1, h2, ⟨h3, h4, h5⟩, h6⟩ := h'
  refine ⟨pU σ 1 3 (p + 1), ?_, h.go (by omega) (by omega), CO.u _ _⟩
  unfold f_Tape_accept_1
  rw [c_sign h]
  dsimp only [Option.bind]
  rw [if_pos hc, h1, pw_id (by omega) (by omega)]
theorem c_acc0 (h : TP σ T n p) {c : Int} (hc : hd T n p ≠ c) : ∃ σ', f_Tape_accept_1 c σ = some (0, σ') ∧ σ' 1 4 = -1000 * 1 - p ∧ CO σ σ' := by
  refine ⟨pU σ 1 4 (-1000 * 1 - p), ?_, pU_s _ _ _ _, CO.u _ _⟩
  unfold f_Tape_accept_1
  rw [c_sign h]
  dsimp only [Option.bind]
  rw [if_neg hc, c_fail h (by omega)]
  rfl
theorem m_tak1 (h : TM τ T n p) {c : Int} (hc : hd T n p = c) (h0 : c ≠ -1) : ∃ τ', f_M_takes_84 c τ = some (1, τ') ∧ TM τ' T n (p + 1) ∧ MO τ τ' := by
  have hp := hd_in (hc ▸ h0)
  have h' := h
  obtain ⟨h1, h2, ⟨h3, h4, h5⟩, h6⟩ := h'
  refine ⟨pU τ 84 19 (p + 1), ?_, h.at (pU_s _ _ _ _) (pU_i _ _ _ _ (by decide)) (fun i => pU_c _ _ _ _ (by decide)) (by omega) (by omega), MO.u _ (by omega)⟩
  unfold f_M_takes_84
  rw [m_here h]
  dsimp only [Option.bind]
  rw [if_pos hc, h1, pw_id (by omega) (by omega)]
theorem m_tak0 (h : TM τ T n p) {c : Int} (hc : hd T n p ≠ c) : ∃ τ', f_M_takes_84 c τ = some (0, τ') ∧ τ' 84 21 = -1000 * 1 - p ∧ MO τ τ' := by
  have h' := h
  obtain ⟨h1, h2, ⟨h3, h4, h5⟩, h6⟩ := h'
  refine ⟨pU τ 84 21 (-1000 * 1 - p), ?_, pU_s _ _ _ _, MO.u _ (by omega)⟩
  unfold f_M_takes_84
  rw [m_here h]
  dsimp only [Option.bind]
  rw [if_neg hc, h1, m_wrong (by omega) (by omega)]
  rfl
theorem c_reg1 (h : TP σ T n p) (hc : 48 ≤ hd T n p ∧ hd T n p ≤ 55) : ∃ σ', f_Tape_readRegister_1 σ = some (hd T n p - 48, σ') ∧ TP σ' T n (p + 1) ∧ CO σ σ' := by
  have hp : p < n := hd_in (T := T) (by omega)
  have h' := h
  obtain ⟨h1, h2, ⟨h3, h4, h5⟩, h6⟩ := h'
  refine ⟨pU σ 1 3 (p + 1), ?_, h.go (by omega) (by omega), CO.u _ _⟩
  unfold f_Tape_readRegister_1
  rw [c_sign h]
  dsimp only [Option.bind]
  rw [pw_id (by omega) (by omega), if_neg (by omega), if_pos (by omega), h1, pw_id (by omega) (by omega)]
theorem c_reg0 (h : TP σ T n p) (hT : TB T n) (hc : ¬ (48 ≤ hd T n p ∧ hd T n p ≤ 55)) : ∃ σ', f_Tape_readRegister_1 σ = some (-1, σ') ∧ σ' 1 4 = -1000 * 1 - p ∧ CO σ σ' := by
  have hr := hd_rng hT (p := p) h.2.2.1.1
  refine ⟨pU σ 1 4 (-1000 * 1 - p), ?_, pU_s _ _ _ _, CO.u _ _⟩
  have e : f_Tape_readRegister_1_p18 σ = some (-1, pU σ 1 4 (-1000 * 1 - p)) := by
    unfold f_Tape_readRegister_1_p18
    rw [c_fail h (by omega)]
    rfl
  unfold f_Tape_readRegister_1
  rw [c_sign h]
  dsimp only [Option.bind]
  rw [pw_id (by omega) (by omega)]
  by_cases h8 : hd T n p - 48 < 0
  · rw [if_pos h8, e]
  · rw [if_neg h8, if_neg (by omega), e]
theorem m_in {a b c : Int} : f_M_in a b c τ = some (if b ≤ a ∧ a ≤ c then 1 else 0, τ) := by
  unfold f_M_in
  by_cases h1 : a < b
  · rw [if_pos h1, if_neg (by omega)]
  · rw [if_neg h1]
    by_cases h2 : c < a
    · rw [if_pos h2, if_neg (by omega)]
    · rw [if_neg h2, if_pos (by omega)]
theorem m_reg1 (h : TM τ T n p) (hc : 48 ≤ hd T n p ∧ hd T n p ≤ 55) : ∃ τ', f_M_readsRegister_84 τ = some (1, τ') ∧ TM τ' T n (p + 1) ∧ MO τ τ' ∧ τ' 84 22 = hd T n p - 48 := by
  have hp : p < n := hd_in (T := T) (by omega)
  have h' := h
  obtain ⟨h1, h2, ⟨h3, h4, h5⟩, h6⟩ := h'
  refine ⟨pU (pU τ 84 22 (hd T n p - 48)) 84 19 (p + 1), ?_, h.at (pU_s _ _ _ _) ((pU_i _ _ _ _ (by decide)).trans (pU_i _ _ _ _ (by decide))) (fun i => (pU_c _ _ _ _ (by decide)).trans (pU_c _ _ _ _ (by decide))) (by omega) (by omega), (MO.u _ (by omega)).tr (MO.u _ (by omega)), (pU_i _ _ _ _ (by decide)).trans (pU_s _ _ _ _)⟩
  unfold f_M_readsRegister_84
  rw [m_here h]
  dsimp only [Option.bind]
  rw [m_in, if_pos hc]
  dsimp only
  rw [if_neg (by decide), m_here h]
  dsimp only
  rw [pw_id (by omega) (by omega), h1, pw_id (by omega) (by omega)]
theorem m_reg0 (h : TM τ T n p) (hc : ¬ (48 ≤ hd T n p ∧ hd T n p ≤ 55)) : ∃ τ', f_M_readsRegister_84 τ = some (0, τ') ∧ τ' 84 21 = -1000 * 1 - p ∧ MO τ τ' := by
  have h' := h
  obtain ⟨h1, h2, ⟨h3, h4, h5⟩, h6⟩ := h'
  refine ⟨pU τ 84 21 (-1000 * 1 - p), ?_, pU_s _ _ _ _, MO.u _ (by omega)⟩
  unfold f_M_readsRegister_84
  rw [m_here h]
  dsimp only [Option.bind]
  rw [m_in, if_neg hc]
  dsimp only
  rw [if_pos rfl, h1, m_wrong (by omega) (by omega)]
  rfl
theorem c_dig (h : TP σ T n p) : f_Tape_digitNext_1 σ = some (if 48 ≤ hd T n p ∧ hd T n p ≤ 57 then 1 else 0, σ) := by
  unfold f_Tape_digitNext_1
  rw [c_sign h]
  dsimp only [Option.bind]
  by_cases h1 : hd T n p < 48
  · rw [if_pos h1, if_neg (by omega)]
  · rw [if_neg h1, c_sign h]
    dsimp only
    by_cases h2 : 57 < hd T n p
    · rw [if_pos h2, if_neg (by omega)]
    · rw [if_neg h2, if_pos (by omega)]
theorem m_dig (h : TM τ T n p) : f_M_isDigit_84 τ = some (if 48 ≤ hd T n p ∧ hd T n p ≤ 57 then 1 else 0, τ) := by
  unfold f_M_isDigit_84
  rw [m_here h]
  dsimp only [Option.bind]
  by_cases h1 : hd T n p < 48
  · rw [if_pos h1, if_neg (by omega)]
  · rw [if_neg h1, m_here h]
    dsimp only
    by_cases h2 : 57 < hd T n p
    · rw [if_pos h2, if_neg (by omega)]
    · rw [if_neg h2, if_pos (by omega)]
end TPs
def dgt (T : Nat → Int) (n p : Int) : Prop := 48 ≤ hd T n p ∧ hd T n p ≤ 57
def nm (T : Nat → Int) (n : Int) : Nat → Int → Int → (Int × Int) ⊕ Int
  | 0, v, p => if 48 ≤ hd T n p ∧ hd T n p ≤ 57 then .inr (-1000 * 2 - p) else .inl (v, p)
  | r + 1, v, p => if 48 ≤ hd T n p ∧ hd T n p ≤ 57 then nm T n r (10 * v + (hd T n p - 48)) (p + 1) else .inl (v, p)
theorem nm_0t {T : Nat → Int} {n v p : Int} (h : 48 ≤ hd T n p ∧ hd T n p ≤ 57) : nm T n 0 v p = .inr (-1000 * 2 - p) := if_pos h
theorem nm_f {T : Nat → Int} {n v p : Int} {r : Nat} (h : ¬ (48 ≤ hd T n p ∧ hd T n p ≤ 57)) : nm T n r v p = .inl (v, p) := by
  cases r with
  | zero => exact if_neg h
  | succ r => exact if_neg h
theorem nm_t {T : Nat → Int} {n v p : Int} {r : Nat} (h : 48 ≤ hd T n p ∧ hd T n p ≤ 57) : nm T n (r + 1) v p = nm T n r (10 * v + (hd T n p - 48)) (p + 1) := if_pos h
def p10 : Nat → Int
  | 0 => 1
  | k + 1 => 10 * p10 k
theorem p10_pos : ∀ r, 1 ≤ p10 r
  | 0 => by decide
  | r + 1 => by have := p10_pos r; show 1 ≤ 10 * p10 r; omega
theorem p10_le {v : Int} {r m : Nat} (hv : 0 ≤ v) (h : (v + 1) * p10 r ≤ p10 m) : v + 1 ≤ p10 m := by
  have h1 := p10_pos r
  have h2 : (v + 1) * 1 ≤ (v + 1) * p10 r := Int.mul_le_mul_of_nonneg_left h1 (by omega)
  omega
theorem p10_st {v d : Int} {r m : Nat} (hd : d ≤ 9) (h : (v + 1) * p10 (r + 1) ≤ p10 m) : (10 * v + d + 1) * p10 r ≤ p10 m := by
  have h1 : (10 * v + d + 1) * p10 r ≤ (10 * (v + 1)) * p10 r := Int.mul_le_mul_of_nonneg_right (by omega) (by have := p10_pos r; omega)
  have h2 : (10 * (v + 1)) * p10 r = (v + 1) * (10 * p10 r) := by rw [Int.mul_comm 10 (v + 1), Int.mul_assoc]
  have h3 : (v + 1) * p10 (r + 1) = (v + 1) * (10 * p10 r) := rfl
  omega
theorem p10_m {m : Nat} (h : m ≤ 5) : p10 m ≤ 100000 := by
  match m, h with
  | 0, _ => decide
  | 1, _ => decide
  | 2, _ => decide
  | 3, _ => decide
  | 4, _ => decide
  | 5, _ => decide
  | k + 6, h => omega
section NUM
variable {T : Nat → Int} {n : Int}
theorem c_p64 {σ : pS} {v p : Int} (h : TP σ T n p) : f_Tape_readDigits_1_p64 v σ = if 48 ≤ hd T n p ∧ hd T n p ≤ 57 then some (-1, pU σ 1 4 (-1000 * 2 - p)) else some (v, σ) := by
  unfold f_Tape_readDigits_1_p64
  rw [c_dig h]
  simp only [Option.bind_some]
  by_cases hg : 48 ≤ hd T n p ∧ hd T n p ≤ 57
  · rw [if_pos hg, if_neg (by decide), c_fail h (by omega), if_pos hg]
    rfl
  · rw [if_neg hg, if_pos rfl, if_neg hg]
theorem c_nm {m : Nat} (hm : m ≤ 5) : ∀ (r : Nat) (v p : Int) (σ : pS) (fu : Nat), TP σ T n p → r ≤ m → 0 ≤ v → (v + 1) * p10 r ≤ p10 m → (r = m → 48 ≤ hd T n p ∧ hd T n p ≤ 57) → 1 ≤ m → r < fu →
    match nm T n r v p with
    | .inl q => ∃ σ', f_Tape_readDigits_1_p4 fu (m : Int) v ((m : Int) - (r : Int)) σ = some (q.1, σ') ∧ TP σ' T n q.2 ∧ CO σ σ' ∧ 0 ≤ q.1 ∧ q.1 + 1 ≤ p10 m ∧ p ≤ q.2
    | .inr f => ∃ σ', f_Tape_readDigits_1_p4 fu (m : Int) v ((m : Int) - (r : Int)) σ = some (-1, σ') ∧ σ' 1 4 = f ∧ CO σ σ' := by
  intro r
  induction r with
  | zero =>
    intro v p σ fu h hr hv hb h4 hm1 hfu
    obtain ⟨fu, rfl⟩ : ∃ k, fu = k + 1 := ⟨fu - 1, by omega⟩
    unfold f_Tape_readDigits_1_p4
    rw [if_pos (by omega), c_p64 h]
    by_cases hg : 48 ≤ hd T n p ∧ hd T n p ≤ 57
    · rw [nm_0t hg]
      try dsimp only
      rw [if_pos hg]
      exact ⟨_, rfl, pU_s _ _ _ _, CO.u _ _⟩
    · rw [nm_f hg]
      try dsimp only
      rw [if_neg hg]
      exact ⟨_, rfl, h, CO.rf _, hv, p10_le hv hb, Int.le_refl _⟩
  | succ r ih =>
    intro v p σ fu h hr hv hb h4 hm1 hfu
    obtain ⟨fu, rfl⟩ : ∃ k, fu = k + 1 := ⟨fu - 1, by omega⟩
    have hvm := p10_le hv hb
    have hmm := p10_m hm
    have h' := h
    obtain ⟨h1, h2, ⟨h3, h3', h5⟩, h6⟩ := h'
    -- a digit's step
    have st : 48 ≤ hd T n p ∧ hd T n p ≤ 57 → f_Tape_readDigits_1_p20 (f_Tape_readDigits_1_p4 fu) (m : Int) v ((m : Int) - ((r + 1 : Nat) : Int)) σ = f_Tape_readDigits_1_p4 fu (m : Int) (10 * v + (hd T n p - 48)) ((m : Int) - (r : Int)) (pU σ 1 3 (p + 1)) := by
      intro hg
      unfold f_Tape_readDigits_1_p20
      rw [c_dig h, if_pos hg]
      simp only [Option.bind_some]
      rw [if_neg (by decide), c_sign h]
      simp only [Option.bind_some]
      rw [pw_id (z := v * 10) (by omega) (by omega), pw_id (z := v * 10 + hd T n p) (by omega) (by omega), pw_id (by omega) (by omega), pw_id (by omega) (by omega), h1, pw_id (by omega) (by omega)]
      rw [show v * 10 + hd T n p - 48 = 10 * v + (hd T n p - 48) by omega, show (m : Int) - ((r + 1 : Nat) : Int) + 1 = (m : Int) - (r : Int) by omega]
    unfold f_Tape_readDigits_1_p4
    rw [if_neg (by omega)]
    by_cases hg : 48 ≤ hd T n p ∧ hd T n p ≤ 57
    · rw [nm_t hg]
      have hp : p < n := hd_in (T := T) (by omega)
      have hi := ih (10 * v + (hd T n p - 48)) (p + 1) (pU σ 1 3 (p + 1)) fu (h.go (by omega) (by omega)) (by omega) (by omega) (p10_st (by omega) hb) (by omega) hm1 (by omega)
      have e : (if ((m : Int) - ((r + 1 : Nat) : Int)) = 0 then f_Tape_readDigits_1_p20 (f_Tape_readDigits_1_p4 fu) (m : Int) v ((m : Int) - ((r + 1 : Nat) : Int)) σ else (f_Tape_digitNext_1 σ).bind fun q10 => if q10.1 = 0 then f_Tape_readDigits_1_p64 v q10.2 else f_Tape_readDigits_1_p20 (f_Tape_readDigits_1_p4 fu) (m : Int) v ((m : Int) - ((r + 1 : Nat) : Int)) q10.2) = f_Tape_readDigits_1_p4 fu (m : Int) (10 * v + (hd T n p - 48)) ((m : Int) - (r : Int)) (pU σ 1 3 (p + 1)) := by
        by_cases hz : ((m : Int) - ((r + 1 : Nat) : Int)) = 0
        · rw [if_pos hz, st hg]
        · rw [if_neg hz, c_dig h, if_pos hg]
          simp only [Option.bind_some]
          rw [if_neg (by decide), st hg]
      rw [e]
      split at hi
      · obtain ⟨σ', a, b, c, d⟩ := hi
        exact ⟨σ', a, b, (CO.u _ _).tr c, d.1, d.2.1, by omega⟩
      · obtain ⟨σ', a, b, c⟩ := hi
        exact ⟨σ', a, b, (CO.u _ _).tr c⟩
    · rw [nm_f hg]
      try dsimp only
      have hz : ¬ ((m : Int) - ((r + 1 : Nat) : Int)) = 0 := fun hz => hg (h4 (by omega))
      rw [if_neg hz, c_dig h, if_neg hg]
      simp only [Option.bind_some]
      rw [if_pos trivial, c_p64 h, if_neg hg]
      exact ⟨_, rfl, h, CO.rf _, hv, hvm, Int.le_refl _⟩
def sNum (T : Nat → Int) (n : Int) (m : Nat) (p : Int) : (Int × Int) ⊕ Int := if 48 ≤ hd T n p ∧ hd T n p ≤ 57 then nm T n m 0 p else .inr (-1000 * 1 - p)
theorem nm_gt {T : Nat → Int} {n : Int} : ∀ (r : Nat) (v p : Int) (q : Int × Int), nm T n r v p = .inl q → p ≤ q.2
  | 0, v, p, q, h => by
    unfold nm at h
    split at h
    · cases h
    · cases h; exact Int.le_refl _
  | r + 1, v, p, q, h => by
    unfold nm at h
    split at h
    · have := nm_gt r _ _ q h; omega
    · cases h; exact Int.le_refl _
theorem sNum_gt {T : Nat → Int} {n : Int} {m : Nat} {p : Int} {q : Int × Int} (hm : 1 ≤ m) (h : sNum T n m p = .inl q) : p < q.2 := by
  unfold sNum at h
  split at h
  · rename_i hg
    obtain ⟨m, rfl⟩ : ∃ k, m = k + 1 := ⟨m - 1, by omega⟩
    unfold nm at h
    rw [if_pos hg] at h
    have := nm_gt m _ _ q h
    omega
  · cases h
theorem c_num {σ : pS} {p : Int} {m : Nat} (hm : m ≤ 5) (hm1 : 1 ≤ m) (h : TP σ T n p) : match sNum T n m p with
    | .inl q => ∃ σ', f_Tape_readDigits_1 (m : Int) σ = some (q.1, σ') ∧ TP σ' T n q.2 ∧ CO σ σ' ∧ 0 ≤ q.1 ∧ q.1 + 1 ≤ p10 m
    | .inr f => ∃ σ', f_Tape_readDigits_1 (m : Int) σ = some (-1, σ') ∧ σ' 1 4 = f ∧ CO σ σ' := by
  unfold sNum f_Tape_readDigits_1
  by_cases hg : 48 ≤ hd T n p ∧ hd T n p ≤ 57
  · rw [if_pos hg]
    have hi := c_nm hm m 0 p σ 4096 h (Nat.le_refl _) (Int.le_refl _) (by rw [Int.zero_add, Int.one_mul]; exact Int.le_refl _) (fun _ => hg) hm1 (by omega)
    rw [show (m : Int) - (m : Int) = 0 by omega] at hi
    split at hi
    · obtain ⟨σ', a, b, c, d⟩ := hi
      exact ⟨σ', a, b, c, d.1, d.2.1⟩
    · exact hi
  · rw [if_neg hg]
    try dsimp only
    refine ⟨pU σ 1 4 (-1000 * 1 - p), ?_, pU_s _ _ _ _, CO.u _ _⟩
    rw [show (4096 : Nat) = 4095 + 1 from rfl]
    unfold f_Tape_readDigits_1_p4
    rw [if_neg (by omega), if_pos rfl]
    unfold f_Tape_readDigits_1_p20
    rw [c_dig h, if_neg hg]
    simp only [Option.bind_some]
    rw [if_pos trivial, c_fail h (by omega)]
    rfl
theorem m_nm4 : ∀ (r : Nat) (v p : Int) (τ : pS) (fu : Nat), TM τ T n p → r ≤ 4 → τ 84 22 = v → 0 ≤ v → (v + 1) * p10 r ≤ p10 4 → (4 : Int) - r ≤ p → r < fu →
    match nm T n r v p with
    | .inl q => ∃ τ', f_M_readsAmount_84_p27 fu (p - (4 - (r : Int))) τ = some (1, τ') ∧ TM τ' T n q.2 ∧ MO τ τ' ∧ τ' 84 22 = q.1
    | .inr f => ∃ τ', f_M_readsAmount_84_p27 fu (p - (4 - (r : Int))) τ = some (0, τ') ∧ τ' 84 21 = f ∧ MO τ τ' := by
  intro r
  induction r with
  | zero =>
    intro v p τ fu h hr hv h0 hb hp4 hfu
    obtain ⟨fu, rfl⟩ : ∃ k, fu = k + 1 := ⟨fu - 1, by omega⟩
    have h' := h
    obtain ⟨h1, h2, ⟨h3, h3', h5⟩, h6⟩ := h'
    unfold f_M_readsAmount_84_p27
    rw [m_dig h]
    simp only [Option.bind_some]
    by_cases hg : 48 ≤ hd T n p ∧ hd T n p ≤ 57
    · rw [nm_0t hg, if_pos hg]
      try dsimp only
      rw [if_neg (by decide), h1, pw_id (by omega) (by omega), if_pos (by omega), m_wrong (by omega) (by omega)]
      exact ⟨pU τ 84 21 (-1000 * 2 - p), rfl, pU_s _ _ _ _, MO.u _ (by omega)⟩
    · rw [nm_f hg, if_neg hg]
      try dsimp only
      rw [if_pos rfl]
      exact ⟨_, rfl, h, MO.rf _, hv⟩
  | succ r ih =>
    intro v p τ fu h hr hv h0 hb hp4 hfu
    obtain ⟨fu, rfl⟩ : ∃ k, fu = k + 1 := ⟨fu - 1, by omega⟩
    have hvm := p10_le h0 hb
    have hmm := p10_m (m := 4) (by omega)
    have h' := h
    obtain ⟨h1, h2, ⟨h3, h3', h5⟩, h6⟩ := h'
    unfold f_M_readsAmount_84_p27
    rw [m_dig h]
    simp only [Option.bind_some]
    by_cases hg : 48 ≤ hd T n p ∧ hd T n p ≤ 57
    · have hp : p < n := hd_in (T := T) (by omega)
      rw [nm_t hg, if_pos hg]
      try dsimp only
      rw [if_neg (by decide), h1, pw_id (z := p - (4 - ((r + 1 : Nat) : Int)) + 4) (by omega) (by omega), if_neg (by omega), m_here h]
      simp only [Option.bind_some]
      rw [h1, hv, pw_id (z := 10 * v) (by omega) (by omega), pw_id (z := 10 * v + hd T n p) (by omega) (by omega), pw_id (z := 10 * v + hd T n p - 48) (by omega) (by omega), pw_id (z := p + 1) (by omega) (by omega)]
      have hi := ih (10 * v + (hd T n p - 48)) (p + 1) (pU (pU τ 84 22 (10 * v + hd T n p - 48)) 84 19 (p + 1)) fu (h.at (pU_s _ _ _ _) ((pU_i _ _ _ _ (by decide)).trans (pU_i _ _ _ _ (by decide))) (fun i => (pU_c _ _ _ _ (by decide)).trans (pU_c _ _ _ _ (by decide))) (by omega) (by omega)) (by omega) (((pU_i _ _ _ _ (by decide)).trans (pU_s _ _ _ _)).trans (by omega)) (by omega) (p10_st (by omega) hb) (by omega) (by omega)
      rw [show p + 1 - (4 - (r : Int)) = p - (4 - ((r + 1 : Nat) : Int)) by omega] at hi
      have hM : MO τ (pU (pU τ 84 22 (10 * v + hd T n p - 48)) 84 19 (p + 1)) := (MO.u _ (by omega)).tr (MO.u _ (by omega))
      split at hi
      · obtain ⟨τ', a, b, c, d⟩ := hi
        exact ⟨τ', a, b, hM.tr c, d⟩
      · obtain ⟨τ', a, b, c⟩ := hi
        exact ⟨τ', a, b, hM.tr c⟩
    · rw [nm_f hg, if_neg hg]
      try dsimp only
      rw [if_pos rfl]
      exact ⟨_, rfl, h, MO.rf _, hv⟩
theorem m_num {τ : pS} {p : Int} (h : TM τ T n p) : match sNum T n 4 p with
    | .inl q => ∃ τ', f_M_readsAmount_84 τ = some (1, τ') ∧ TM τ' T n q.2 ∧ MO τ τ' ∧ τ' 84 22 = q.1
    | .inr f => ∃ τ', f_M_readsAmount_84 τ = some (0, τ') ∧ τ' 84 21 = f ∧ MO τ τ' := by
  have h' := h
  obtain ⟨h1, h2, ⟨h3, h3', h5⟩, h6⟩ := h'
  unfold sNum f_M_readsAmount_84
  rw [m_dig h]
  simp only [Option.bind_some]
  by_cases hg : 48 ≤ hd T n p ∧ hd T n p ≤ 57
  · rw [if_pos hg, if_pos hg]
    try dsimp only
    rw [if_neg (by decide), h1]
    have hi := m_nm4 4 0 p (pU τ 84 22 0) 4096 (h.at ((pU_i _ _ _ _ (by decide)).trans h1) (pU_i _ _ _ _ (by decide)) (fun i => pU_c _ _ _ _ (by decide)) h3 h3') (Nat.le_refl _) (pU_s _ _ _ _) (Int.le_refl _) (by decide) (by omega) (by omega)
    rw [show p - (4 - ((4 : Nat) : Int)) = p by omega] at hi
    split at hi
    · obtain ⟨τ', a, b, c, d⟩ := hi
      exact ⟨τ', a, b, (MO.u _ (by omega)).tr c, d⟩
    · obtain ⟨τ', a, b, c⟩ := hi
      exact ⟨τ', a, b, (MO.u _ (by omega)).tr c⟩
  · rw [if_neg hg, if_neg hg]
    try dsimp only
    rw [if_pos rfl, h1, m_wrong (by omega) (by omega)]
    exact ⟨pU τ 84 21 (-1000 * 1 - p), rfl, pU_s _ _ _ _, MO.u _ (by omega)⟩
end NUM
/-- but at P nothing has changed -/
def FR (P : Nat → Nat → Prop) (σ σ' : pS) : Prop := ∀ k x, P k x ∨ σ' k x = σ k x
theorem FR.rf (P : Nat → Nat → Prop) (σ : pS) : FR P σ σ := fun _ _ => Or.inr rfl
theorem FR.tr {P : Nat → Nat → Prop} {a b c : pS} (h1 : FR P a b) (h2 : FR P b c) : FR P a c := fun k x => by
  rcases h1 k x with h | h
  · exact Or.inl h
  · rcases h2 k x with g | g
    · exact Or.inl g
    · exact Or.inr (g.trans h)
theorem FR.mono {P Q : Nat → Nat → Prop} {a b : pS} (h1 : FR P a b) (h : ∀ k x, P k x → Q k x) : FR Q a b := fun k x => (h1 k x).imp (h k x) id
theorem FR.get {P : Nat → Nat → Prop} {a b : pS} (h1 : FR P a b) {k x : Nat} (h : ¬ P k x) : b k x = a k x := (h1 k x).resolve_left h
theorem FR.u {P : Nat → Nat → Prop} {σ : pS} {j i : Nat} {v : Int} (h : P j i) : FR P σ (pU σ j i v) := fun k x => by
  by_cases hk : k = j ∧ x = i
  · exact Or.inl (by rw [hk.1, hk.2]; exact h)
  · exact Or.inr (if_neg hk)
theorem CO.fr {P : Nat → Nat → Prop} {a b : pS} (h : CO a b) (h1 : ∀ x, P 1 x) : FR P a b := fun k x => by
  by_cases hk : k = 1
  · exact Or.inl (by rw [hk]; exact h1 x)
  · exact Or.inr (h k x hk)
theorem MO.fr {P : Nat → Nat → Prop} {a b : pS} (h : MO a b) (h1 : P 84 19) (h2 : P 84 21) (h3 : P 84 22) : FR P a b := fun k x => by
  by_cases hk : k = 84
  · subst hk
    by_cases g1 : x = 19
    · exact Or.inl (g1 ▸ h1)
    · by_cases g2 : x = 21
      · exact Or.inl (g2 ▸ h2)
      · by_cases g3 : x = 22
        · exact Or.inl (g3 ▸ h3)
        · exact Or.inr (h.2 x g1 g2 g3)
  · exact Or.inr (h.1 k x hk)
section SP
variable {T : Nat → Int} {n : Int}
theorem TP.u {σ : pS} {p : Int} (h : TP σ T n p) {k : Nat} (i : Nat) (v : Int) (h1 : k ≠ 1) (h2 : k ≠ 2) : TP (pU σ k i v) T n p := by
  obtain ⟨a, b, c, d⟩ := h
  exact ⟨(pU_c _ _ _ _ h1.symm).trans a, (pU_c _ _ _ _ h1.symm).trans b, c, fun j hj => (pU_c _ _ _ _ h2.symm).trans (d j hj)⟩
theorem TM.u {τ : pS} {p : Int} (h : TM τ T n p) {k : Nat} (i : Nat) (v : Int) (h1 : k ≠ 84) (h2 : k ≠ 96) : TM (pU τ k i v) T n p := by
  obtain ⟨a, b, c, d⟩ := h
  exact ⟨(pU_c _ _ _ _ h1.symm).trans a, (pU_c _ _ _ _ h1.symm).trans b, c, fun j hj => by rw [pU_c _ _ _ _ h2.symm]; exact d j hj⟩
def sReg (T : Nat → Int) (n p : Int) : (Int × Int) ⊕ Int := if 48 ≤ hd T n p ∧ hd T n p ≤ 55 then .inl (hd T n p - 48, p + 1) else .inr (-1000 * 1 - p)
def sTak (T : Nat → Int) (n c p : Int) : Int ⊕ Int := if hd T n p = c then .inl (p + 1) else .inr (-1000 * 1 - p)
def sGiv (T : Nat → Int) (n p : Int) : (Int × Int) ⊕ Int := match sReg T n p with
  | .inr f => .inr f
  | .inl q => (match sTak T n 44 q.2 with
    | .inr f => .inr f
    | .inl p1 => .inl (q.1, p1))
def sPlN (T : Nat → Int) (n b p : Int) : ((Int × Int) × Int) ⊕ Int := match sNum T n 4 p with
  | .inr f => .inr f
  | .inl w => .inl ((b, w.1), w.2)
def sPlc (T : Nat → Int) (n p : Int) : ((Int × Int) × Int) ⊕ Int := if hd T n p = 114 then (match sReg T n (p + 1) with
    | .inr f => .inr f
    | .inl q => (match sTak T n 43 q.2 with
      | .inr f => .inr f
      | .inl p1 => sPlN T n q.1 p1)) else sPlN T n (-1) p
def ko (c : Int) : Int := if c = 35 then 0 else if c = 38 then 1 else if c = 42 then 1 else if c = 43 then 1 else if c = 45 then 1 else if c = 62 then 1 else if c = 76 then 2 else if c = 83 then 3 else if c = 94 then 1 else -1
def so (c : Int) : Int := if c = 98 then 1 else if c = 104 then 2 else if c = 119 then 4 else 0
/-- kind, sign, size, to, one, other, base, number -/
abbrev O8 : Type := Int × Int × Int × Int × Int × Int × Int × Int
def sOp0 (T : Nat → Int) (n p : Int) : (O8 × Int) ⊕ Int := match sGiv T n (p + 1) with
  | .inr f => .inr f
  | .inl q => (match sNum T n 4 q.2 with
    | .inr f => .inr f
    | .inl w => .inl ((0, hd T n p, 0, q.1, -1, -1, -1, w.1), w.2))
def sOp1 (T : Nat → Int) (n p : Int) : (O8 × Int) ⊕ Int := match sGiv T n (p + 1) with
  | .inr f => .inr f
  | .inl q => (match sReg T n q.2 with
    | .inr f => .inr f
    | .inl a => (match sTak T n 44 a.2 with
      | .inr f => .inr f
      | .inl p1 => (match sReg T n p1 with
        | .inr f => .inr f
        | .inl b => .inl ((1, hd T n p, 0, q.1, a.1, b.1, -1, 0), b.2))))
/-- size, to, base, number -/
def sMov (T : Nat → Int) (n p : Int) : ((Int × Int × Int × Int) × Int) ⊕ Int := if so (hd T n p) = 0 then .inr (-1000 * 1 - p) else (match sGiv T n (p + 1) with
  | .inr f => .inr f
  | .inl q => (match sPlc T n q.2 with
    | .inr f => .inr f
    | .inl w => .inl ((so (hd T n p), q.1, w.1.1, w.1.2), w.2)))
def sOp2 (T : Nat → Int) (n p k : Int) : (O8 × Int) ⊕ Int := match sMov T n (p + 1) with
  | .inr f => .inr f
  | .inl w => .inl ((k, hd T n p, w.1.1, w.1.2.1, -1, -1, w.1.2.2.1, w.1.2.2.2), w.2)
def sOp (T : Nat → Int) (n p : Int) : (O8 × Int) ⊕ Int := if ko (hd T n p) = -1 then .inr (-1000 * 1 - p) else if ko (hd T n p) = 0 then sOp0 T n p else if ko (hd T n p) = 1 then sOp1 T n p else sOp2 T n p (ko (hd T n p))
theorem ko_c {c : Int} {σ : pS} : f_Prog_kindOf c σ = some (ko c, σ) := by
  unfold f_Prog_kindOf ko
  repeat' split
  all_goals rfl
theorem ko_m {c : Int} {σ : pS} : f_M_kindBy c σ = some (ko c, σ) := by
  unfold f_M_kindBy ko
  repeat' split
  all_goals rfl
theorem so_c {c : Int} {σ : pS} : f_Prog_sizeOf c σ = some (so c, σ) := by
  unfold f_Prog_sizeOf so
  repeat' split
  all_goals rfl
theorem so_m {c : Int} {σ : pS} : f_M_sizeBy c σ = some (if so c = 0 then -1 else so c, σ) := by
  unfold f_M_sizeBy so
  repeat' split
  all_goals first | rfl | omega
theorem ko_r (c : Int) : -1 ≤ ko c ∧ ko c ≤ 3 := by
  unfold ko
  repeat' split
  all_goals decide
theorem so_r (c : Int) : 0 ≤ so c ∧ so c ≤ 4 := by
  unfold so
  repeat' split
  all_goals decide
theorem ko_in {p : Int} (h : ko (hd T n p) ≠ -1) : p < n := by
  refine hd_in (T := T) (fun e => h ?_)
  rw [e]
  rfl
theorem so_in {p : Int} (h : so (hd T n p) ≠ 0) : p < n := by
  refine hd_in (T := T) (fun e => h ?_)
  rw [e]
  rfl
/-- the readers, each by what it should find -/
theorem c_reg {σ : pS} {p : Int} (h : TP σ T n p) (hT : TB T n) : match sReg T n p with
    | .inl q => ∃ σ', f_Tape_readRegister_1 σ = some (q.1, σ') ∧ TP σ' T n q.2 ∧ CO σ σ' ∧ 0 ≤ q.1 ∧ q.1 ≤ 7
    | .inr f => ∃ σ', f_Tape_readRegister_1 σ = some (-1, σ') ∧ σ' 1 4 = f ∧ CO σ σ' := by
  unfold sReg
  by_cases hc : 48 ≤ hd T n p ∧ hd T n p ≤ 55
  · rw [if_pos hc]
    obtain ⟨σ', a, b, c⟩ := c_reg1 h hc
    exact ⟨σ', a, b, c, by dsimp only; omega, by dsimp only; omega⟩
  · rw [if_neg hc]
    exact c_reg0 h hT hc
theorem m_reg {τ : pS} {p : Int} (h : TM τ T n p) : match sReg T n p with
    | .inl q => ∃ τ', f_M_readsRegister_84 τ = some (1, τ') ∧ TM τ' T n q.2 ∧ MO τ τ' ∧ τ' 84 22 = q.1
    | .inr f => ∃ τ', f_M_readsRegister_84 τ = some (0, τ') ∧ τ' 84 21 = f ∧ MO τ τ' := by
  unfold sReg
  by_cases hc : 48 ≤ hd T n p ∧ hd T n p ≤ 55
  · rw [if_pos hc]
    exact m_reg1 h hc
  · rw [if_neg hc]
    exact m_reg0 h hc
theorem c_tak {σ : pS} {p c : Int} (h : TP σ T n p) (h0 : c ≠ -1) : match sTak T n c p with
    | .inl q => ∃ σ', f_Tape_accept_1 c σ = some (1, σ') ∧ TP σ' T n q ∧ CO σ σ'
    | .inr f => ∃ σ', f_Tape_accept_1 c σ = some (0, σ') ∧ σ' 1 4 = f ∧ CO σ σ' := by
  unfold sTak
  by_cases hc : hd T n p = c
  · rw [if_pos hc]
    exact c_acc1 h hc h0
  · rw [if_neg hc]
    exact c_acc0 h hc
theorem m_tak {τ : pS} {p c : Int} (h : TM τ T n p) (h0 : c ≠ -1) : match sTak T n c p with
    | .inl q => ∃ τ', f_M_takes_84 c τ = some (1, τ') ∧ TM τ' T n q ∧ MO τ τ'
    | .inr f => ∃ τ', f_M_takes_84 c τ = some (0, τ') ∧ τ' 84 21 = f ∧ MO τ τ' := by
  unfold sTak
  by_cases hc : hd T n p = c
  · rw [if_pos hc]
    exact m_tak1 h hc h0
  · rw [if_neg hc]
    exact m_tak0 h hc
def Pg (c : Nat) (i : Nat) (k x : Nat) : Prop := k = 1 ∨ (k = c ∧ x = i)
theorem c_giv {σ : pS} {p i : Int} (h : TP σ T n p) (hT : TB T n) (hi : 0 ≤ i ∧ i < 20) : match sGiv T n p with
    | .inl q => ∃ σ', f_Prog_readGiven_45_1 i σ = some (1, σ') ∧ TP σ' T n q.2 ∧ FR (Pg 49 i.toNat) σ σ' ∧ σ' 49 i.toNat = q.1 ∧ 0 ≤ q.1 ∧ q.1 ≤ 7
    | .inr f => ∃ σ', f_Prog_readGiven_45_1 i σ = some (0, σ') ∧ σ' 1 4 = f ∧ FR (Pg 49 i.toNat) σ σ' := by
  unfold sGiv f_Prog_readGiven_45_1
  have h1 := c_reg h hT
  cases hr : sReg T n p with
  | inr f =>
    rw [hr] at h1
    obtain ⟨σ', a, b, c⟩ := h1
    dsimp only
    rw [a, Option.bind_some, if_pos hi, if_pos hi, if_pos (pU_s _ _ _ _)]
    exact ⟨_, rfl, (pU_c _ _ _ _ (by decide)).trans b, (c.fr (fun x => Or.inl rfl)).tr (FR.u (Or.inr ⟨rfl, rfl⟩))⟩
  | inl q =>
    rw [hr] at h1
    obtain ⟨σ', a, b, c, d⟩ := h1
    dsimp only at a b d ⊢
    have h2 := c_tak (c := 44) (b.u (k := 49) i.toNat q.1 (by decide) (by decide)) (by decide)
    rw [a, Option.bind_some, if_pos hi, if_pos hi]
    dsimp only
    rw [if_neg (by rw [pU_s]; omega)]
    have hF : FR (Pg 49 i.toNat) σ (pU σ' 49 i.toNat q.1) := (c.fr (fun x => Or.inl rfl)).tr (FR.u (Or.inr ⟨rfl, rfl⟩))
    cases ht : sTak T n 44 q.2 with
    | inr f =>
      rw [ht] at h2
      obtain ⟨σ2, a2, b2, c2⟩ := h2
      rw [a2, Option.bind_some]
      exact ⟨σ2, rfl, b2, hF.tr (c2.fr (fun x => Or.inl rfl))⟩
    | inl p1 =>
      rw [ht] at h2
      obtain ⟨σ2, a2, b2, c2⟩ := h2
      rw [a2, Option.bind_some]
      exact ⟨σ2, rfl, b2, hF.tr (c2.fr (fun x => Or.inl rfl)), (c2 _ _ (by decide)).trans (pU_s _ _ _ _), d⟩
theorem c_nmb {σ : pS} {p i : Int} (h : TP σ T n p) (hi : 0 ≤ i ∧ i < 20) : match sNum T n 4 p with
    | .inl q => ∃ σ', f_Prog_readNumber_45_1 i σ = some (1, σ') ∧ TP σ' T n q.2 ∧ FR (Pg 52 i.toNat) σ σ' ∧ σ' 52 i.toNat = q.1 ∧ 0 ≤ q.1 ∧ q.1 ≤ 9999
    | .inr f => ∃ σ', f_Prog_readNumber_45_1 i σ = some (0, σ') ∧ σ' 1 4 = f ∧ FR (Pg 52 i.toNat) σ σ' := by
  unfold f_Prog_readNumber_45_1
  have h1 := c_num (m := 4) (by omega) (by omega) h
  cases hr : sNum T n 4 p with
  | inr f =>
    rw [hr] at h1
    obtain ⟨σ', a, b, c⟩ := h1
    have a : f_Tape_readDigits_1 4 σ = some (-1, σ') := a
    dsimp only
    rw [a, Option.bind_some, if_pos hi, if_pos hi, if_pos (pU_s _ _ _ _)]
    exact ⟨_, rfl, (pU_c _ _ _ _ (by decide)).trans b, (c.fr (fun x => Or.inl rfl)).tr (FR.u (Or.inr ⟨rfl, rfl⟩))⟩
  | inl q =>
    rw [hr] at h1
    obtain ⟨σ', a, b, c, d, e⟩ := h1
    have a : f_Tape_readDigits_1 4 σ = some (q.1, σ') := a
    have e4 : p10 4 = 10000 := by decide
    dsimp only at d e ⊢
    rw [a, Option.bind_some, if_pos hi, if_pos hi]
    dsimp only
    rw [if_neg (by rw [pU_s]; omega)]
    exact ⟨_, rfl, b.u _ _ (by decide) (by decide), (c.fr (fun x => Or.inl rfl)).tr (FR.u (Or.inr ⟨rfl, rfl⟩)), pU_s _ _ _ _, d, by omega⟩
end SP
section CP
variable {T : Nat → Int} {n : Int}
def Pp (i : Nat) (k x : Nat) : Prop := k = 1 ∨ ((k = 51 ∨ k = 52) ∧ x = i)
theorem c_116 {σ : pS} {p i : Int} (h : TP σ T n p) (hi : 0 ≤ i ∧ i < 20) : match sNum T n 4 p with
    | .inl q => ∃ σ', f_Prog_readMove_45_1_p116 i σ = some (1, σ') ∧ TP σ' T n q.2 ∧ FR (Pg 52 i.toNat) σ σ' ∧ σ' 52 i.toNat = q.1 ∧ 0 ≤ q.1 ∧ q.1 ≤ 9999
    | .inr f => ∃ σ', f_Prog_readMove_45_1_p116 i σ = some (0, σ') ∧ σ' 1 4 = f ∧ FR (Pg 52 i.toNat) σ σ' := by
  have h1 := c_nmb h hi
  unfold f_Prog_readMove_45_1_p116
  cases hr : sNum T n 4 p with
  | inr f =>
    rw [hr] at h1
    obtain ⟨σ', a, b, c⟩ := h1
    dsimp only
    rw [a, Option.bind_some]
    dsimp only
    rw [if_pos (by decide)]
    exact ⟨σ', rfl, b, c⟩
  | inl q =>
    rw [hr] at h1
    obtain ⟨σ', a, b⟩ := h1
    dsimp only
    rw [a, Option.bind_some]
    dsimp only
    rw [if_pos (by decide)]
    exact ⟨σ', rfl, b⟩
theorem c_pln {σ : pS} {p i bs : Int} (h : TP σ T n p) (hi : 0 ≤ i ∧ i < 20) (hb : σ 51 i.toNat = bs) : match sPlN T n bs p with
    | .inl q => ∃ σ', f_Prog_readMove_45_1_p116 i σ = some (1, σ') ∧ TP σ' T n q.2 ∧ FR (Pp i.toNat) σ σ' ∧ σ' 51 i.toNat = q.1.1 ∧ σ' 52 i.toNat = q.1.2
    | .inr f => ∃ σ', f_Prog_readMove_45_1_p116 i σ = some (0, σ') ∧ σ' 1 4 = f ∧ FR (Pp i.toNat) σ σ' := by
  have hm : ∀ k x, Pg 52 i.toNat k x → Pp i.toNat k x := fun k x hk => by unfold Pg at hk; unfold Pp; omega
  have h1 := c_116 h hi
  unfold sPlN
  cases hr : sNum T n 4 p with
  | inr f =>
    rw [hr] at h1
    obtain ⟨σ', a, b, c⟩ := h1
    exact ⟨σ', a, b, c.mono hm⟩
  | inl q =>
    rw [hr] at h1
    obtain ⟨σ', a, b, c, d⟩ := h1
    exact ⟨σ', a, b, c.mono hm, (c.get (by unfold Pg; omega)).trans hb, d.1⟩
theorem c_step {σ : pS} {p : Int} (h : TP σ T n p) (hp : p < n) : f_Tape_step_1 σ = some (0, pU σ 1 3 (p + 1)) ∧ TP (pU σ 1 3 (p + 1)) T n (p + 1) := by
  have h' := h
  obtain ⟨h1, h2, ⟨h3, h4, h5⟩, h6⟩ := h'
  unfold f_Tape_step_1
  rw [h1, pw_id (by omega) (by omega)]
  exact ⟨rfl, h.go (by omega) (by omega)⟩
theorem c_plc {σ : pS} {p i : Int} (h : TP σ T n p) (hT : TB T n) (hi : 0 ≤ i ∧ i < 20) (hb : σ 51 i.toNat = -1) : match sPlc T n p with
    | .inl q => ∃ σ', f_Prog_readMove_45_1_p72 i σ = some (1, σ') ∧ TP σ' T n q.2 ∧ FR (Pp i.toNat) σ σ' ∧ σ' 51 i.toNat = q.1.1 ∧ σ' 52 i.toNat = q.1.2
    | .inr f => ∃ σ', f_Prog_readMove_45_1_p72 i σ = some (0, σ') ∧ σ' 1 4 = f ∧ FR (Pp i.toNat) σ σ' := by
  have h1x : ∀ x, Pp i.toNat 1 x := fun x => Or.inl rfl
  unfold sPlc f_Prog_readMove_45_1_p72
  rw [c_sign h, Option.bind_some]
  dsimp only
  by_cases hc : hd T n p = 114
  · have hp : p < n := hd_in (T := T) (by omega)
    obtain ⟨hs1, hs2⟩ := c_step h hp
    have h1 := c_reg hs2 hT
    rw [if_pos hc, if_pos hc, hs1, Option.bind_some]
    dsimp only
    have hF1 : FR (Pp i.toNat) σ (pU σ 1 3 (p + 1)) := FR.u (Or.inl rfl)
    cases hr : sReg T n (p + 1) with
    | inr f =>
      rw [hr] at h1
      obtain ⟨σ', a, b, c⟩ := h1
      dsimp only
      rw [a, Option.bind_some, if_pos hi, if_pos hi, if_pos (pU_s _ _ _ _)]
      exact ⟨_, rfl, (pU_c _ _ _ _ (by decide)).trans b, (hF1.tr (c.fr h1x)).tr (FR.u (Or.inr ⟨Or.inl rfl, rfl⟩))⟩
    | inl q =>
      rw [hr] at h1
      obtain ⟨σ', a, b, c, d⟩ := h1
      dsimp only at a b d ⊢
      have h2 := c_tak (c := 43) (b.u (k := 51) i.toNat q.1 (by decide) (by decide)) (by decide)
      rw [a, Option.bind_some, if_pos hi, if_pos hi]
      dsimp only
      rw [if_neg (by rw [pU_s]; omega)]
      have hF : FR (Pp i.toNat) σ (pU σ' 51 i.toNat q.1) := (hF1.tr (c.fr h1x)).tr (FR.u (Or.inr ⟨Or.inl rfl, rfl⟩))
      cases ht : sTak T n 43 q.2 with
      | inr f =>
        rw [ht] at h2
        obtain ⟨σ2, a2, b2, c2⟩ := h2
        rw [a2, Option.bind_some]
        exact ⟨σ2, rfl, b2, hF.tr (c2.fr h1x)⟩
      | inl p1 =>
        rw [ht] at h2
        obtain ⟨σ2, a2, b2, c2⟩ := h2
        rw [a2, Option.bind_some]
        dsimp only
        rw [if_neg (by decide)]
        have h3 := c_pln (i := i) (bs := q.1) b2 hi ((c2 _ _ (by decide)).trans (pU_s _ _ _ _))
        cases hq : sPlN T n q.1 p1 with
        | inr f =>
          rw [hq] at h3
          obtain ⟨σ3, a3, b3, c3⟩ := h3
          exact ⟨σ3, a3, b3, (hF.tr (c2.fr h1x)).tr c3⟩
        | inl w =>
          rw [hq] at h3
          obtain ⟨σ3, a3, b3, c3, d3⟩ := h3
          exact ⟨σ3, a3, b3, (hF.tr (c2.fr h1x)).tr c3, d3⟩
  · rw [if_neg hc, if_neg hc]
    exact c_pln h hi hb
def Pm (i : Nat) (k x : Nat) : Prop := k = 1 ∨ (48 ≤ k ∧ k ≤ 52 ∧ x = i)
theorem c_mov {σ : pS} {p i kd : Int} (h : TP σ T n p) (hT : TB T n) (hi : 0 ≤ i ∧ i < 20) (hk : σ 46 i.toNat = kd) (h50 : σ 50 i.toNat = -1) (h51 : σ 51 i.toNat = -1) : match sMov T n p with
    | .inl q => ∃ σ', f_Prog_readMove_45_1 i σ = some (1, σ') ∧ TP σ' T n q.2 ∧ FR (Pm i.toNat) σ σ' ∧ σ' 48 i.toNat = q.1.1 ∧ ((kd = 3 ∧ σ' 49 i.toNat = -1 ∧ σ' 50 i.toNat = q.1.2.1) ∨ (kd ≠ 3 ∧ σ' 49 i.toNat = q.1.2.1 ∧ σ' 50 i.toNat = -1)) ∧ σ' 51 i.toNat = q.1.2.2.1 ∧ σ' 52 i.toNat = q.1.2.2.2
    | .inr f => ∃ σ', f_Prog_readMove_45_1 i σ = some (0, σ') ∧ σ' 1 4 = f ∧ FR (Pm i.toNat) σ σ' := by
  have h1x : ∀ x, Pm i.toNat 1 x := fun x => Or.inl rfl
  have hmg : ∀ k x, Pg 49 i.toNat k x → Pm i.toNat k x := fun k x hk => by unfold Pg at hk; unfold Pm; omega
  have hmp : ∀ k x, Pp i.toNat k x → Pm i.toNat k x := fun k x hk => by unfold Pp at hk; unfold Pm; omega
  unfold sMov f_Prog_readMove_45_1
  rw [c_sign h, Option.bind_some]
  dsimp only
  rw [so_c, Option.bind_some, if_pos hi, if_pos hi]
  dsimp only
  rw [pU_s]
  have hF0 : FR (Pm i.toNat) σ (pU σ 48 i.toNat (so (hd T n p))) := FR.u (Or.inr ⟨by decide, by decide, rfl⟩)
  have h0 := h.u (k := 48) i.toNat (so (hd T n p)) (by decide) (by decide)
  by_cases hz : so (hd T n p) = 0
  · rw [if_pos hz, if_pos hz, c_fail h0 (by omega)]
    exact ⟨pU (pU σ 48 i.toNat (so (hd T n p))) 1 4 (-1000 * 1 - p), rfl, pU_s _ _ _ _, hF0.tr (FR.u (Or.inl rfl))⟩
  · have hp := so_in hz
    obtain ⟨hs1, hs2⟩ := c_step h0 hp
    rw [if_neg hz, if_neg hz, hs1, Option.bind_some]
    dsimp only
    have hF1 : FR (Pm i.toNat) σ (pU (pU σ 48 i.toNat (so (hd T n p))) 1 3 (p + 1)) := hF0.tr (FR.u (Or.inl rfl))
    have h1 := c_giv hs2 hT hi
    cases hr : sGiv T n (p + 1) with
    | inr f =>
      rw [hr] at h1
      obtain ⟨σ', a, b, c⟩ := h1
      dsimp only
      rw [a, Option.bind_some]
      exact ⟨σ', rfl, b, hF1.tr (c.mono hmg)⟩
    | inl q =>
      rw [hr] at h1
      obtain ⟨σ', a, b, c, d, e⟩ := h1
      dsimp only at a b d e ⊢
      rw [a, Option.bind_some]
      dsimp only
      have g : ∀ k, k ≠ 1 → k ≠ 48 → k ≠ 49 → σ' k i.toNat = σ k i.toNat := fun k h1 h2 h3 => (c.get (by unfold Pg; omega)).trans ((pU_c _ _ _ _ h1).trans (pU_c _ _ _ _ h2))
      have g48 : σ' 48 i.toNat = so (hd T n p) := (c.get (by unfold Pg; omega)).trans ((pU_c _ _ _ _ (by decide)).trans (pU_s _ _ _ _))
      have hF2 : FR (Pm i.toNat) σ σ' := hF1.tr (c.mono hmg)
      have hk9 : σ' 46 i.toNat = kd := (g 46 (by decide) (by decide) (by decide)).trans hk
      rw [if_neg (by decide), if_pos hi]
      by_cases hk3 : kd = 3
      · rw [if_pos (hk9.trans hk3), if_pos hi, if_pos hi, if_pos hi]
        have h3 := c_plc (i := i) (((b.u (k := 50) i.toNat (σ' 49 i.toNat) (by decide) (by decide)).u (k := 49) i.toNat (-1) (by decide) (by decide))) hT hi (((pU_c _ _ _ _ (by decide)).trans ((pU_c _ _ _ _ (by decide)).trans (g 51 (by decide) (by decide) (by decide)))).trans h51)
        have hF3 : FR (Pm i.toNat) σ (pU (pU σ' 50 i.toNat (σ' 49 i.toNat)) 49 i.toNat (-1)) := (hF2.tr (FR.u (Or.inr ⟨by decide, by decide, rfl⟩))).tr (FR.u (Or.inr ⟨by decide, by decide, rfl⟩))
        cases hq : sPlc T n q.2 with
        | inr f =>
          rw [hq] at h3
          obtain ⟨σ3, a3, b3, c3⟩ := h3
          exact ⟨σ3, a3, b3, hF3.tr (c3.mono hmp)⟩
        | inl w =>
          rw [hq] at h3
          obtain ⟨σ3, a3, b3, c3, d3, e3⟩ := h3
          refine ⟨σ3, a3, b3, hF3.tr (c3.mono hmp), ?_, Or.inl ⟨hk3, ?_, ?_⟩, d3, e3⟩
          · exact (c3.get (by unfold Pp; omega)).trans (((pU_c _ _ _ _ (by decide)).trans (pU_c _ _ _ _ (by decide))).trans g48)
          · exact (c3.get (by unfold Pp; omega)).trans (pU_s _ _ _ _)
          · exact (c3.get (by unfold Pp; omega)).trans (((pU_c _ _ _ _ (by decide)).trans (pU_s _ _ _ _)).trans d)
      · rw [if_neg (fun e => hk3 (hk9.symm.trans e))]
        have h3 := c_plc (i := i) b hT hi ((g 51 (by decide) (by decide) (by decide)).trans h51)
        cases hq : sPlc T n q.2 with
        | inr f =>
          rw [hq] at h3
          obtain ⟨σ3, a3, b3, c3⟩ := h3
          exact ⟨σ3, a3, b3, hF2.tr (c3.mono hmp)⟩
        | inl w =>
          rw [hq] at h3
          obtain ⟨σ3, a3, b3, c3, d3, e3⟩ := h3
          refine ⟨σ3, a3, b3, hF2.tr (c3.mono hmp), ?_, Or.inr ⟨hk3, ?_, ?_⟩, d3, e3⟩
          · exact (c3.get (by unfold Pp; omega)).trans g48
          · exact (c3.get (by unfold Pp; omega)).trans d
          · exact (c3.get (by unfold Pp; omega)).trans ((g 50 (by decide) (by decide) (by decide)).trans h50)
theorem c_rck {σ : pS} {p i : Int} (h : TP σ T n p) (hT : TB T n) (hi : 0 ≤ i ∧ i < 20) : match sGiv T n p with
    | .inr f => ∃ σ', f_Prog_readReckoning_45_1 i σ = some (0, σ') ∧ σ' 1 4 = f ∧ FR (Pm i.toNat) σ σ'
    | .inl q => (match sReg T n q.2 with
      | .inr f => ∃ σ', f_Prog_readReckoning_45_1 i σ = some (0, σ') ∧ σ' 1 4 = f ∧ FR (Pm i.toNat) σ σ'
      | .inl a => (match sTak T n 44 a.2 with
        | .inr f => ∃ σ', f_Prog_readReckoning_45_1 i σ = some (0, σ') ∧ σ' 1 4 = f ∧ FR (Pm i.toNat) σ σ'
        | .inl p1 => (match sReg T n p1 with
          | .inr f => ∃ σ', f_Prog_readReckoning_45_1 i σ = some (0, σ') ∧ σ' 1 4 = f ∧ FR (Pm i.toNat) σ σ'
          | .inl b => ∃ σ', f_Prog_readReckoning_45_1 i σ = some (1, σ') ∧ TP σ' T n b.2 ∧ FR (Pm i.toNat) σ σ' ∧ σ' 48 i.toNat = σ 48 i.toNat ∧ σ' 49 i.toNat = q.1 ∧ σ' 50 i.toNat = a.1 ∧ σ' 51 i.toNat = b.1 ∧ σ' 52 i.toNat = σ 52 i.toNat))) := by
  have h1x : ∀ x, Pm i.toNat 1 x := fun x => Or.inl rfl
  have hmg : ∀ k x, Pg 49 i.toNat k x → Pm i.toNat k x := fun k x hk => by unfold Pg at hk; unfold Pm; omega
  unfold f_Prog_readReckoning_45_1
  have h1 := c_giv h hT hi
  cases hr : sGiv T n p with
  | inr f =>
    rw [hr] at h1
    obtain ⟨σ', a, b, c⟩ := h1
    dsimp only
    rw [a, Option.bind_some]
    exact ⟨σ', rfl, b, c.mono hmg⟩
  | inl q =>
    rw [hr] at h1
    obtain ⟨σ1, a1, b1, c1, d1, e1⟩ := h1
    dsimp only at a1 b1 d1 ⊢
    rw [a1, Option.bind_some]
    dsimp only
    rw [if_neg (by decide)]
    have h2 := c_reg b1 hT
    cases hr2 : sReg T n q.2 with
    | inr f =>
      rw [hr2] at h2
      obtain ⟨σ2, a2, b2, c2⟩ := h2
      dsimp only
      rw [a2, Option.bind_some, if_pos hi, if_pos hi, if_pos (pU_s _ _ _ _)]
      exact ⟨_, rfl, (pU_c _ _ _ _ (by decide)).trans b2, ((c1.mono hmg).tr (c2.fr h1x)).tr (FR.u (Or.inr ⟨by decide, by decide, rfl⟩))⟩
    | inl u =>
      rw [hr2] at h2
      obtain ⟨σ2, a2, b2, c2, d2⟩ := h2
      dsimp only at a2 b2 d2 ⊢
      rw [a2, Option.bind_some, if_pos hi, if_pos hi]
      dsimp only
      rw [if_neg (by rw [pU_s]; omega)]
      have h3 := c_tak (c := 44) (b2.u (k := 50) i.toNat u.1 (by decide) (by decide)) (by decide)
      have hF2 : FR (Pm i.toNat) σ (pU σ2 50 i.toNat u.1) := ((c1.mono hmg).tr (c2.fr h1x)).tr (FR.u (Or.inr ⟨by decide, by decide, rfl⟩))
      cases hr3 : sTak T n 44 u.2 with
      | inr f =>
        rw [hr3] at h3
        obtain ⟨σ3, a3, b3, c3⟩ := h3
        dsimp only
        rw [a3, Option.bind_some]
        exact ⟨σ3, rfl, b3, hF2.tr (c3.fr h1x)⟩
      | inl p1 =>
        rw [hr3] at h3
        obtain ⟨σ3, a3, b3, c3⟩ := h3
        dsimp only
        rw [a3, Option.bind_some]
        dsimp only
        rw [if_neg (by decide)]
        have h4 := c_reg b3 hT
        cases hr4 : sReg T n p1 with
        | inr f =>
          rw [hr4] at h4
          obtain ⟨σ4, a4, b4, c4⟩ := h4
          dsimp only
          rw [a4, Option.bind_some, if_pos hi, if_pos hi, if_pos (pU_s _ _ _ _)]
          exact ⟨_, rfl, (pU_c _ _ _ _ (by decide)).trans b4, ((hF2.tr (c3.fr h1x)).tr (c4.fr h1x)).tr (FR.u (Or.inr ⟨by decide, by decide, rfl⟩))⟩
        | inl w =>
          rw [hr4] at h4
          obtain ⟨σ4, a4, b4, c4, d4⟩ := h4
          dsimp only at a4 b4 d4 ⊢
          rw [a4, Option.bind_some, if_pos hi, if_pos hi]
          dsimp only
          rw [if_neg (by rw [pU_s]; omega)]
          have g : ∀ k, k ≠ 1 → k ≠ 50 → k ≠ 51 → pU σ4 51 i.toNat w.1 k i.toNat = σ1 k i.toNat := fun k h1 h2 h3 => (pU_c _ _ _ _ h3).trans ((c4 _ _ h1).trans ((c3 _ _ h1).trans ((pU_c _ _ _ _ h2).trans (c2 _ _ h1))))
          refine ⟨_, rfl, b4.u _ _ (by decide) (by decide), ((hF2.tr (c3.fr h1x)).tr (c4.fr h1x)).tr (FR.u (Or.inr ⟨by decide, by decide, rfl⟩)), ?_, ?_, ?_, pU_s _ _ _ _, ?_⟩
          · exact (g 48 (by decide) (by decide) (by decide)).trans (c1.get (by unfold Pg; omega))
          · exact (g 49 (by decide) (by decide) (by decide)).trans d1
          · exact (pU_c _ _ _ _ (by decide)).trans ((c4 _ _ (by decide)).trans ((c3 _ _ (by decide)).trans (pU_s _ _ _ _)))
          · exact (g 52 (by decide) (by decide) (by decide)).trans (c1.get (by unfold Pg; omega))
end CP
def CR (σ : pS) (i : Nat) (r : O8) : Prop := σ 46 i = r.1 ∧ σ 47 i = r.2.1 ∧ σ 48 i = r.2.2.1 ∧ ((r.1 = 3 ∧ σ 49 i = -1 ∧ σ 50 i = r.2.2.2.1) ∨ (r.1 ≠ 3 ∧ σ 49 i = r.2.2.2.1 ∧ σ 50 i = r.2.2.2.2.1)) ∧ ((r.1 = 1 ∧ σ 51 i = r.2.2.2.2.2.1) ∨ (r.1 ≠ 1 ∧ σ 51 i = r.2.2.2.2.2.2.1)) ∧ σ 52 i = r.2.2.2.2.2.2.2
def MR (τ : pS) (i : Nat) (r : O8) : Prop := τ 110 i = r.1 ∧ τ 111 i = r.2.1 ∧ τ 112 i = r.2.2.2.1 ∧ (r.1 = 1 → τ 113 i = r.2.2.2.2.1 ∧ τ 114 i = r.2.2.2.2.2.1) ∧ (2 ≤ r.1 → τ 115 i = r.2.2.1 ∧ τ 116 i = r.2.2.2.2.2.2.1) ∧ (r.1 ≠ 1 → τ 117 i = r.2.2.2.2.2.2.2)
def Pc (i : Nat) (k x : Nat) : Prop := k = 1 ∨ (46 ≤ k ∧ k ≤ 52 ∧ x = i)
section CO5
variable {T : Nat → Int} {n : Int}
theorem c_op {σ : pS} {p i : Int} (h : TP σ T n p) (hT : TB T n) (hi : 0 ≤ i ∧ i < 20) : match sOp T n p with
    | .inl q => ∃ σ', f_Prog_readOp_45_1 i σ = some (1, σ') ∧ TP σ' T n q.2 ∧ FR (Pc i.toNat) σ σ' ∧ CR σ' i.toNat q.1
    | .inr f => ∃ σ', f_Prog_readOp_45_1 i σ = some (0, σ') ∧ σ' 1 4 = f ∧ FR (Pc i.toNat) σ σ' := by
  have hmm : ∀ k x, Pm i.toNat k x → Pc i.toNat k x := fun k x hk => by unfold Pm at hk; unfold Pc; omega
  have hmg : ∀ c, 46 ≤ c → c ≤ 52 → ∀ k x, Pg c i.toNat k x → Pc i.toNat k x := fun c h1 h2 k x hk => by unfold Pg at hk; unfold Pc; omega
  unfold sOp f_Prog_readOp_45_1
  rw [c_sign h, Option.bind_some]
  dsimp only
  rw [ko_c, Option.bind_some]
  dsimp only
  by_cases hk : ko (hd T n p) = -1
  · rw [if_pos hk, if_pos hk, c_fail h (by omega)]
    exact ⟨pU σ 1 4 (-1000 * 1 - p), rfl, pU_s _ _ _ _, FR.u (Or.inl rfl)⟩
  · have hp := ko_in hk
    obtain ⟨hs1, hs2⟩ := c_step h hp
    rw [if_neg hk, if_neg hk, if_pos hi.2, hs1, Option.bind_some, if_pos hi, if_pos hi, if_pos hi, if_pos hi, if_pos hi, if_pos hi]
    dsimp only
    generalize hσ1 : pU (pU (pU (pU (pU (pU (pU σ 1 3 (p + 1)) 47 i.toNat (hd T n p)) 46 i.toNat (ko (hd T n p))) 48 i.toNat 0) 50 i.toNat (-1)) 51 i.toNat (-1)) 52 i.toNat 0 = σ1
    have hT1 : TP σ1 T n (p + 1) := by
      rw [← hσ1]
      exact (((((hs2.u _ _ (by decide) (by decide)).u _ _ (by decide) (by decide)).u _ _ (by decide) (by decide)).u _ _ (by decide) (by decide)).u _ _ (by decide) (by decide)).u _ _ (by decide) (by decide)
    have hF1 : FR (Pc i.toNat) σ σ1 := by
      rw [← hσ1]
      exact ((((((FR.u (Or.inl rfl)).tr (FR.u (Or.inr ⟨by decide, by decide, rfl⟩))).tr (FR.u (Or.inr ⟨by decide, by decide, rfl⟩))).tr (FR.u (Or.inr ⟨by decide, by decide, rfl⟩))).tr (FR.u (Or.inr ⟨by decide, by decide, rfl⟩))).tr (FR.u (Or.inr ⟨by decide, by decide, rfl⟩))).tr (FR.u (Or.inr ⟨by decide, by decide, rfl⟩))
    have e47 : σ1 47 i.toNat = hd T n p := by rw [← hσ1]; simp [pU]
    have e46 : σ1 46 i.toNat = ko (hd T n p) := by rw [← hσ1]; simp [pU]
    have e48 : σ1 48 i.toNat = 0 := by rw [← hσ1]; simp [pU]
    have e50 : σ1 50 i.toNat = -1 := by rw [← hσ1]; simp [pU]
    have e51 : σ1 51 i.toNat = -1 := by rw [← hσ1]; simp [pU]
    have e52 : σ1 52 i.toNat = 0 := by rw [← hσ1]; simp [pU]
    by_cases hk0 : ko (hd T n p) = 0
    · rw [if_pos hk0, if_pos hk0]
      unfold sOp0
      have h1 := c_giv hT1 hT hi
      cases hr : sGiv T n (p + 1) with
      | inr f =>
        rw [hr] at h1
        obtain ⟨σ2, a2, b2, c2⟩ := h1
        dsimp only
        rw [a2, Option.bind_some]
        exact ⟨σ2, rfl, b2, hF1.tr (c2.mono (hmg 49 (by decide) (by decide)))⟩
      | inl q =>
        rw [hr] at h1
        obtain ⟨σ2, a2, b2, c2, d2, e2⟩ := h1
        dsimp only at a2 b2 d2 ⊢
        rw [a2, Option.bind_some]
        dsimp only
        rw [if_neg (by decide)]
        have hF2 := hF1.tr (c2.mono (hmg 49 (by decide) (by decide)))
        have h3 := c_nmb b2 hi
        cases hq : sNum T n 4 q.2 with
        | inr f =>
          rw [hq] at h3
          obtain ⟨σ3, a3, b3, c3⟩ := h3
          dsimp only
          rw [a3, Option.bind_some]
          exact ⟨σ3, rfl, b3, hF2.tr (c3.mono (hmg 52 (by decide) (by decide)))⟩
        | inl w =>
          rw [hq] at h3
          obtain ⟨σ3, a3, b3, c3, d3, e3⟩ := h3
          dsimp only at b3 d3 ⊢
          rw [a3, Option.bind_some]
          have g : ∀ k, k ≠ 1 → k ≠ 49 → k ≠ 52 → σ3 k i.toNat = σ1 k i.toNat := fun k h1 h2 h3 => (c3.get (by unfold Pg; omega)).trans (c2.get (by unfold Pg; omega))
          refine ⟨σ3, rfl, b3, hF2.tr (c3.mono (hmg 52 (by decide) (by decide))), ?_⟩
          unfold CR
          dsimp only
          refine ⟨(g 46 (by decide) (by decide) (by decide)).trans (e46.trans hk0), (g 47 (by decide) (by decide) (by decide)).trans e47, (g 48 (by decide) (by decide) (by decide)).trans e48, Or.inr ⟨by decide, (c3.get (by unfold Pg; omega)).trans d2, (g 50 (by decide) (by decide) (by decide)).trans e50⟩, Or.inr ⟨by decide, (g 51 (by decide) (by decide) (by decide)).trans e51⟩, d3⟩
    · rw [if_neg hk0, if_neg hk0]
      by_cases hk1 : ko (hd T n p) = 1
      · rw [if_pos hk1, if_pos hk1]
        unfold sOp1
        have h1 := c_rck hT1 hT hi
        cases hr : sGiv T n (p + 1) with
        | inr f =>
          rw [hr] at h1
          obtain ⟨σ2, a2, b2, c2⟩ := h1
          dsimp only
          rw [a2, Option.bind_some]
          exact ⟨σ2, rfl, b2, hF1.tr (c2.mono hmm)⟩
        | inl q =>
          rw [hr] at h1
          dsimp only at h1 ⊢
          cases hr2 : sReg T n q.2 with
          | inr f =>
            rw [hr2] at h1
            obtain ⟨σ2, a2, b2, c2⟩ := h1
            dsimp only
            rw [a2, Option.bind_some]
            exact ⟨σ2, rfl, b2, hF1.tr (c2.mono hmm)⟩
          | inl u =>
            rw [hr2] at h1
            dsimp only at h1 ⊢
            cases hr3 : sTak T n 44 u.2 with
            | inr f =>
              rw [hr3] at h1
              obtain ⟨σ2, a2, b2, c2⟩ := h1
              dsimp only
              rw [a2, Option.bind_some]
              exact ⟨σ2, rfl, b2, hF1.tr (c2.mono hmm)⟩
            | inl p1 =>
              rw [hr3] at h1
              dsimp only at h1 ⊢
              cases hr4 : sReg T n p1 with
              | inr f =>
                rw [hr4] at h1
                obtain ⟨σ2, a2, b2, c2⟩ := h1
                dsimp only
                rw [a2, Option.bind_some]
                exact ⟨σ2, rfl, b2, hF1.tr (c2.mono hmm)⟩
              | inl w =>
                rw [hr4] at h1
                obtain ⟨σ2, a2, b2, c2, d1, d2, d3, d4, d5⟩ := h1
                dsimp only
                rw [a2, Option.bind_some]
                refine ⟨σ2, rfl, b2, hF1.tr (c2.mono hmm), ?_⟩
                unfold CR
                dsimp only
                exact ⟨(c2.get (by unfold Pm; omega)).trans (e46.trans hk1), (c2.get (by unfold Pm; omega)).trans e47, d1.trans e48, Or.inr ⟨by decide, d2, d3⟩, Or.inl ⟨rfl, d4⟩, d5.trans e52⟩
      · rw [if_neg hk1, if_neg hk1]
        unfold sOp2
        have h1 := c_mov hT1 hT hi e46 e50 e51
        cases hr : sMov T n (p + 1) with
        | inr f =>
          rw [hr] at h1
          obtain ⟨σ2, a2, b2, c2⟩ := h1
          dsimp only
          rw [a2, Option.bind_some]
          exact ⟨σ2, rfl, b2, hF1.tr (c2.mono hmm)⟩
        | inl w =>
          rw [hr] at h1
          obtain ⟨σ2, a2, b2, c2, d1, d2, d3, d4⟩ := h1
          dsimp only at d1 d2 d3 d4 ⊢
          rw [a2, Option.bind_some]
          refine ⟨σ2, rfl, b2, hF1.tr (c2.mono hmm), ?_⟩
          unfold CR
          dsimp only
          exact ⟨(c2.get (by unfold Pm; omega)).trans e46, (c2.get (by unfold Pm; omega)).trans e47, d1, d2, Or.inr ⟨hk1, d3⟩, d4⟩
theorem c_op20 {σ : pS} {p : Int} (h : TP σ T n p) : ∃ σ', f_Prog_readOp_45_1 20 σ = some (0, σ') ∧ σ' 1 4 = (if ko (hd T n p) = -1 then -1000 * 1 - p else -1000 * 4 - p) ∧ CO σ σ' := by
  unfold f_Prog_readOp_45_1
  rw [c_sign h, Option.bind_some]
  dsimp only
  rw [ko_c, Option.bind_some]
  dsimp only
  by_cases hk : ko (hd T n p) = -1
  · rw [if_pos hk, if_pos hk, c_fail h (by omega)]
    exact ⟨pU σ 1 4 (-1000 * 1 - p), rfl, pU_s _ _ _ _, CO.u _ _⟩
  · rw [if_neg hk, if_neg hk, if_neg (by decide), c_fail h (by omega)]
    exact ⟨pU σ 1 4 (-1000 * 4 - p), rfl, pU_s _ _ _ _, CO.u _ _⟩
/-- the reference -/
def Qp (i : Nat) (k x : Nat) : Prop := (k = 84 ∧ (x = 19 ∨ x = 21 ∨ x = 22)) ∨ ((k = 116 ∨ k = 117) ∧ x = i)
theorem m_p56 {τ : pS} {p i bs : Int} (h : TM τ T n p) (hi : 0 ≤ i ∧ i < 20) (hb : τ 116 i.toNat = bs) : match sPlN T n bs p with
    | .inl q => ∃ τ', f_M_readsPlace_84_p56 i τ = some (1, τ') ∧ TM τ' T n q.2 ∧ FR (Qp i.toNat) τ τ' ∧ τ' 116 i.toNat = q.1.1 ∧ τ' 117 i.toNat = q.1.2
    | .inr f => ∃ τ', f_M_readsPlace_84_p56 i τ = some (0, τ') ∧ τ' 84 21 = f ∧ FR (Qp i.toNat) τ τ' := by
  unfold sPlN f_M_readsPlace_84_p56
  have h1 := m_num h
  cases hr : sNum T n 4 p with
  | inr f =>
    rw [hr] at h1
    obtain ⟨τ', a, b, c⟩ := h1
    dsimp only
    rw [a, Option.bind_some]
    exact ⟨τ', rfl, b, c.fr (Or.inl (by decide)) (Or.inl (by decide)) (Or.inl (by decide))⟩
  | inl q =>
    rw [hr] at h1
    obtain ⟨τ', a, b, c, d⟩ := h1
    dsimp only at b d ⊢
    rw [a, Option.bind_some]
    dsimp only
    rw [if_neg (by decide), if_pos hi]
    exact ⟨_, rfl, b.u _ _ (by decide) (by decide), (c.fr (Or.inl (by decide)) (Or.inl (by decide)) (Or.inl (by decide))).tr (FR.u (Or.inr ⟨Or.inr rfl, rfl⟩)), (pU_c _ _ _ _ (by decide)).trans ((c.1 _ _ (by decide)).trans hb), (pU_s _ _ _ _).trans d⟩
theorem m_plc {τ : pS} {p i : Int} (h : TM τ T n p) (hi : 0 ≤ i ∧ i < 20) : match sPlc T n p with
    | .inl q => ∃ τ', f_M_readsPlace_84 i τ = some (1, τ') ∧ TM τ' T n q.2 ∧ FR (Qp i.toNat) τ τ' ∧ τ' 116 i.toNat = q.1.1 ∧ τ' 117 i.toNat = q.1.2
    | .inr f => ∃ τ', f_M_readsPlace_84 i τ = some (0, τ') ∧ τ' 84 21 = f ∧ FR (Qp i.toNat) τ τ' := by
  unfold sPlc f_M_readsPlace_84
  have h0 := h.u (k := 116) i.toNat (-1) (by decide) (by decide)
  have hF0 : FR (Qp i.toNat) τ (pU τ 116 i.toNat (-1)) := FR.u (Or.inr ⟨Or.inl rfl, rfl⟩)
  rw [if_pos hi, m_here h0, Option.bind_some]
  dsimp only
  have h0' := h0
  obtain ⟨h1, h2, ⟨h3, h4, h5⟩, h6⟩ := h0'
  by_cases hc : hd T n p = 114
  · have hp : p < n := hd_in (T := T) (by omega)
    have hg : TM (pU (pU τ 116 i.toNat (-1)) 84 19 (p + 1)) T n (p + 1) := h0.at (pU_s _ _ _ _) (pU_i _ _ _ _ (by decide)) (fun i => pU_c _ _ _ _ (by decide)) (by omega) (by omega)
    have hF1 : FR (Qp i.toNat) τ (pU (pU τ 116 i.toNat (-1)) 84 19 (p + 1)) := hF0.tr (FR.u (Or.inl (by decide)))
    rw [if_pos hc, if_pos hc, h1, pw_id (by omega) (by omega)]
    have h7 := m_reg hg
    cases hr : sReg T n (p + 1) with
    | inr f =>
      rw [hr] at h7
      obtain ⟨τ', a, b, c⟩ := h7
      dsimp only
      rw [a, Option.bind_some]
      exact ⟨τ', rfl, b, hF1.tr (c.fr (Or.inl (by decide)) (Or.inl (by decide)) (Or.inl (by decide)))⟩
    | inl q =>
      rw [hr] at h7
      obtain ⟨τ', a, b, c, d⟩ := h7
      dsimp only at b d ⊢
      rw [a, Option.bind_some]
      dsimp only
      rw [if_neg (by decide), if_pos hi, d]
      have h8 := m_tak (c := 43) (b.u (k := 116) i.toNat q.1 (by decide) (by decide)) (by decide)
      have hF2 : FR (Qp i.toNat) τ (pU τ' 116 i.toNat q.1) := (hF1.tr (c.fr (Or.inl (by decide)) (Or.inl (by decide)) (Or.inl (by decide)))).tr (FR.u (Or.inr ⟨Or.inl rfl, rfl⟩))
      cases ht : sTak T n 43 q.2 with
      | inr f =>
        rw [ht] at h8
        obtain ⟨τ2, a2, b2, c2⟩ := h8
        dsimp only
        rw [a2, Option.bind_some]
        exact ⟨τ2, rfl, b2, hF2.tr (c2.fr (Or.inl (by decide)) (Or.inl (by decide)) (Or.inl (by decide)))⟩
      | inl p1 =>
        rw [ht] at h8
        obtain ⟨τ2, a2, b2, c2⟩ := h8
        dsimp only
        rw [a2, Option.bind_some]
        dsimp only
        rw [if_neg (by decide)]
        have h9 := m_p56 (i := i) (bs := q.1) b2 hi ((c2.1 _ _ (by decide)).trans (pU_s _ _ _ _))
        have hF3 := hF2.tr (c2.fr (Or.inl (by decide)) (Or.inl (by decide)) (Or.inl (by decide)))
        cases hq : sPlN T n q.1 p1 with
        | inr f =>
          rw [hq] at h9
          obtain ⟨τ3, a3, b3, c3⟩ := h9
          exact ⟨τ3, a3, b3, hF3.tr c3⟩
        | inl w =>
          rw [hq] at h9
          obtain ⟨τ3, a3, b3, c3, d3⟩ := h9
          exact ⟨τ3, a3, b3, hF3.tr c3, d3⟩
  · rw [if_neg hc, if_neg hc]
    have h9 := m_p56 (i := i) h0 hi (pU_s _ _ _ _)
    cases hq : sPlN T n (-1) p with
    | inr f =>
      rw [hq] at h9
      obtain ⟨τ3, a3, b3, c3⟩ := h9
      exact ⟨τ3, a3, b3, hF0.tr c3⟩
    | inl w =>
      rw [hq] at h9
      obtain ⟨τ3, a3, b3, c3, d3⟩ := h9
      exact ⟨τ3, a3, b3, hF0.tr c3, d3⟩
end CO5
def Qm (i : Nat) (k x : Nat) : Prop := (k = 84 ∧ (x = 19 ∨ x = 21 ∨ x = 22)) ∨ (110 ≤ k ∧ k ≤ 117 ∧ x = i)
theorem MO.qm {a b : pS} {i : Nat} (h : MO a b) : FR (Qm i) a b := h.fr (Or.inl (by decide)) (Or.inl (by decide)) (Or.inl (by decide))
section MO6
variable {T : Nat → Int} {n : Int}
/-- behind the register and the comma -/
def m_tail (k i : Int) (τ : pS) : Option (Int × pS) := if k = 2 then (f_M_readsOp_84_p177 i τ) else (if k = 3 then (f_M_readsOp_84_p177 i τ) else (if k = 0 then ((f_M_readsAmount_84 τ).bind fun q32 => (if q32.1 = 0 then (some (0, q32.2)) else (if 0 ≤ i ∧ i < 20 then (some (1, pU q32.2 117 (i.toNat) (q32.2 84 22))) else none))) else ((f_M_readsRegister_84 τ).bind fun q24 => (if q24.1 = 0 then (some (0, q24.2)) else (if 0 ≤ i ∧ i < 20 then ((f_M_takes_84 44 (pU q24.2 113 (i.toNat) (q24.2 84 22))).bind fun q27 => (if q27.1 = 0 then (some (0, q27.2)) else ((f_M_readsRegister_84 q27.2).bind fun q29 => (if q29.1 = 0 then (some (0, q29.2)) else (if 0 ≤ i ∧ i < 20 then (some (1, pU q29.2 114 (i.toNat) (q29.2 84 22))) else none))))) else none)))))
theorem m_137 {τ : pS} {p i k : Int} (h : TM τ T n p) (hi : 0 ≤ i ∧ i < 20) : match sGiv T n p with
    | .inl q => ∃ τ', f_M_readsOp_84_p137 k i τ = m_tail k i τ' ∧ TM τ' T n q.2 ∧ FR (Qm i.toNat) τ τ' ∧ τ' 112 i.toNat = q.1 ∧ ∀ c x, c ≠ 84 → c ≠ 112 → τ' c x = τ c x
    | .inr f => ∃ τ', f_M_readsOp_84_p137 k i τ = some (0, τ') ∧ τ' 84 21 = f ∧ FR (Qm i.toNat) τ τ' := by
  unfold sGiv f_M_readsOp_84_p137
  have h1 := m_reg h
  cases hr : sReg T n p with
  | inr f =>
    rw [hr] at h1
    obtain ⟨τ1, a, b, c⟩ := h1
    dsimp only
    rw [a, Option.bind_some]
    exact ⟨τ1, rfl, b, c.qm⟩
  | inl q =>
    rw [hr] at h1
    obtain ⟨τ1, a, b, c, d⟩ := h1
    dsimp only at b d ⊢
    rw [a, Option.bind_some]
    dsimp only
    rw [if_neg (by decide), if_pos hi, d]
    have h2 := m_tak (c := 44) (b.u (k := 112) i.toNat q.1 (by decide) (by decide)) (by decide)
    have hF : FR (Qm i.toNat) τ (pU τ1 112 i.toNat q.1) := c.qm.tr (FR.u (Or.inr ⟨by decide, by decide, rfl⟩))
    cases ht : sTak T n 44 q.2 with
    | inr f =>
      rw [ht] at h2
      obtain ⟨τ2, a2, b2, c2⟩ := h2
      dsimp only
      rw [a2, Option.bind_some]
      exact ⟨τ2, rfl, b2, hF.tr c2.qm⟩
    | inl p1 =>
      rw [ht] at h2
      obtain ⟨τ2, a2, b2, c2⟩ := h2
      dsimp only
      rw [a2, Option.bind_some]
      exact ⟨τ2, rfl, b2, hF.tr c2.qm, (c2.1 _ _ (by decide)).trans (pU_s _ _ _ _), fun k x h1 h2 => (c2.1 _ _ h1).trans ((pU_c _ _ _ _ h2).trans (c.1 _ _ h1))⟩
theorem m_177 {τ : pS} {p i : Int} (h : TM τ T n p) (hi : 0 ≤ i ∧ i < 20) : match sPlc T n p with
    | .inl q => ∃ τ', f_M_readsOp_84_p177 i τ = some (1, τ') ∧ TM τ' T n q.2 ∧ FR (Qp i.toNat) τ τ' ∧ τ' 116 i.toNat = q.1.1 ∧ τ' 117 i.toNat = q.1.2
    | .inr f => ∃ τ', f_M_readsOp_84_p177 i τ = some (0, τ') ∧ τ' 84 21 = f ∧ FR (Qp i.toNat) τ τ' := by
  unfold f_M_readsOp_84_p177
  have h1 := m_plc h hi
  cases hr : sPlc T n p with
  | inr f =>
    rw [hr] at h1
    obtain ⟨τ', a, b, c⟩ := h1
    dsimp only
    rw [a, Option.bind_some]
    exact ⟨τ', rfl, b, c⟩
  | inl q =>
    rw [hr] at h1
    obtain ⟨τ', a, b⟩ := h1
    dsimp only
    rw [a, Option.bind_some]
    exact ⟨τ', rfl, b⟩
def Qc (i : Nat) (k x : Nat) : Prop := (k = 84 ∧ (x = 19 ∨ x = 21 ∨ x = 22 ∨ x = 41)) ∨ (110 ≤ k ∧ k ≤ 117 ∧ x = i)
theorem m_op {τ : pS} {p i : Int} (h : TM τ T n p) (hi : 0 ≤ i ∧ i < 20) (h41 : τ 84 41 = i) : match sOp T n p with
    | .inl q => ∃ τ', f_M_readsOp_84 τ = some (1, τ') ∧ TM τ' T n q.2 ∧ FR (Qc i.toNat) τ τ' ∧ τ' 84 41 = i + 1 ∧ MR τ' i.toNat q.1
    | .inr f => ∃ τ', f_M_readsOp_84 τ = some (0, τ') ∧ τ' 84 21 = f ∧ FR (Qc i.toNat) τ τ' := by
  have hqc : ∀ k x, Qm i.toNat k x → Qc i.toNat k x := fun k x hk => by unfold Qm at hk; unfold Qc; omega
  have hqp : ∀ k x, Qp i.toNat k x → Qm i.toNat k x := fun k x hk => by unfold Qp at hk; unfold Qm; omega
  have h' := h
  obtain ⟨h1, h2, ⟨h3, h4, h5⟩, h6⟩ := h'
  unfold sOp f_M_readsOp_84
  rw [m_here h, Option.bind_some]
  dsimp only
  rw [ko_m, Option.bind_some]
  dsimp only
  by_cases hk : ko (hd T n p) = -1
  · rw [if_pos hk, if_pos hk, h1, m_wrong (by omega) (by omega)]
    exact ⟨pU τ 84 21 (-1000 * 1 - p), rfl, pU_s _ _ _ _, FR.u (Or.inl ⟨rfl, by decide⟩)⟩
  · have hp := ko_in hk
    have hkr := ko_r (hd T n p)
    rw [if_neg hk, if_neg hk]
    simp only [h41]
    rw [if_neg (show ¬ i = 20 by omega), if_pos hi, pw_id (z := i + 1) (by omega) (by omega)]
    have hA : TM (pU (pU τ 84 41 (i + 1)) 110 i.toNat (ko (hd T n p))) T n p := (h.at ((pU_i _ _ _ _ (by decide)).trans h1) (pU_i _ _ _ _ (by decide)) (fun x => pU_c _ _ _ _ (by decide)) h3 h4).u _ _ (by decide) (by decide)
    rw [m_here hA, Option.bind_some, if_pos hi]
    dsimp only
    have hA1 := hA.1
    rw [hA1, pw_id (z := p + 1) (by omega) (by omega)]
    generalize hτ1 : pU (pU (pU (pU τ 84 41 (i + 1)) 110 i.toNat (ko (hd T n p))) 111 i.toNat (hd T n p)) 84 19 (p + 1) = τ1
    have hT1 : TM τ1 T n (p + 1) := by
      rw [← hτ1]
      exact (hA.u _ _ (by decide) (by decide)).at (pU_s _ _ _ _) (pU_i _ _ _ _ (by decide)) (fun x => pU_c _ _ _ _ (by decide)) (by omega) (by omega)
    have hF1 : FR (Qc i.toNat) τ τ1 := by
      rw [← hτ1]
      exact (((FR.u (Or.inl ⟨rfl, by decide⟩)).tr (FR.u (Or.inr ⟨by decide, by decide, rfl⟩))).tr (FR.u (Or.inr ⟨by decide, by decide, rfl⟩))).tr (FR.u (Or.inl ⟨rfl, by decide⟩))
    have e41 : τ1 84 41 = i + 1 := by rw [← hτ1]; simp [pU]
    have e110 : τ1 110 i.toNat = ko (hd T n p) := by rw [← hτ1]; simp [pU]
    have e111 : τ1 111 i.toNat = hd T n p := by rw [← hτ1]; simp [pU]
    have hn41 : ∀ {i : Nat}, ¬ Qm i 84 41 := fun {i} hq => by unfold Qm at hq; omega
    by_cases hk0 : ko (hd T n p) = 0
    · rw [if_pos hk0, if_neg (show ¬ ko (hd T n p) = 2 by omega), if_neg (show ¬ ko (hd T n p) = 3 by omega)]
      unfold sOp0
      have h7 := m_137 (k := ko (hd T n p)) hT1 hi
      cases hr : sGiv T n (p + 1) with
      | inr f =>
        rw [hr] at h7
        obtain ⟨τ2, a2, b2, c2⟩ := h7
        exact ⟨τ2, a2, b2, hF1.tr (c2.mono hqc)⟩
      | inl q =>
        rw [hr] at h7
        obtain ⟨τ2, a2, b2, c2, d2, e2⟩ := h7
        dsimp only at b2 d2 ⊢
        rw [a2]
        unfold m_tail
        rw [if_neg (by omega), if_neg (by omega), if_pos hk0]
        have h8 := m_num b2
        cases hq : sNum T n 4 q.2 with
        | inr f =>
          rw [hq] at h8
          obtain ⟨τ3, a3, b3, c3⟩ := h8
          dsimp only
          rw [a3, Option.bind_some]
          exact ⟨τ3, rfl, b3, hF1.tr ((c2.tr c3.qm).mono hqc)⟩
        | inl w =>
          rw [hq] at h8
          obtain ⟨τ3, a3, b3, c3, d3⟩ := h8
          dsimp only at b3 d3 ⊢
          rw [a3, Option.bind_some]
          dsimp only
          rw [if_neg (by decide), if_pos hi]
          have hF : FR (Qm i.toNat) τ1 (pU τ3 117 i.toNat (τ3 84 22)) := (c2.tr c3.qm).tr (FR.u (Or.inr ⟨by decide, by decide, rfl⟩))
          have g : ∀ c, c ≠ 84 → c ≠ 112 → c ≠ 117 → pU τ3 117 i.toNat (τ3 84 22) c i.toNat = τ1 c i.toNat := fun c h1 h2 h3 => (pU_c _ _ _ _ h3).trans ((c3.1 _ _ h1).trans (e2 _ _ h1 h2))
          refine ⟨_, rfl, b3.u _ _ (by decide) (by decide), hF1.tr (hF.mono hqc), (hF.get hn41).trans e41, ?_⟩
          unfold MR
          dsimp only
          exact ⟨(g 110 (by decide) (by decide) (by decide)).trans (e110.trans hk0), (g 111 (by decide) (by decide) (by decide)).trans e111, (pU_c _ _ _ _ (by decide)).trans ((c3.1 _ _ (by decide)).trans d2), fun h => absurd h (by decide), fun h => absurd h (by decide), fun _ => (pU_s _ _ _ _).trans d3⟩
    · rw [if_neg hk0]
      by_cases hk1 : ko (hd T n p) = 1
      · rw [if_pos hk1, if_neg (show ¬ ko (hd T n p) = 2 by omega), if_neg (show ¬ ko (hd T n p) = 3 by omega)]
        unfold sOp1
        have h7 := m_137 (k := ko (hd T n p)) hT1 hi
        cases hr : sGiv T n (p + 1) with
        | inr f =>
          rw [hr] at h7
          obtain ⟨τ2, a2, b2, c2⟩ := h7
          exact ⟨τ2, a2, b2, hF1.tr (c2.mono hqc)⟩
        | inl q =>
          rw [hr] at h7
          obtain ⟨τ2, a2, b2, c2, d2, e2⟩ := h7
          dsimp only at b2 d2 ⊢
          rw [a2]
          unfold m_tail
          rw [if_neg (by omega), if_neg (by omega), if_neg hk0]
          have h8 := m_reg b2
          cases hr2 : sReg T n q.2 with
          | inr f =>
            rw [hr2] at h8
            obtain ⟨τ3, a3, b3, c3⟩ := h8
            dsimp only
            rw [a3, Option.bind_some]
            exact ⟨τ3, rfl, b3, hF1.tr ((c2.tr c3.qm).mono hqc)⟩
          | inl u =>
            rw [hr2] at h8
            obtain ⟨τ3, a3, b3, c3, d3⟩ := h8
            dsimp only at b3 d3 ⊢
            rw [a3, Option.bind_some]
            dsimp only
            rw [if_neg (by decide), if_pos hi, d3]
            have h9 := m_tak (c := 44) (b3.u (k := 113) i.toNat u.1 (by decide) (by decide)) (by decide)
            have hF3 : FR (Qm i.toNat) τ1 (pU τ3 113 i.toNat u.1) := (c2.tr c3.qm).tr (FR.u (Or.inr ⟨by decide, by decide, rfl⟩))
            cases hr3 : sTak T n 44 u.2 with
            | inr f =>
              rw [hr3] at h9
              obtain ⟨τ4, a4, b4, c4⟩ := h9
              dsimp only
              rw [a4, Option.bind_some]
              exact ⟨τ4, rfl, b4, hF1.tr ((hF3.tr c4.qm).mono hqc)⟩
            | inl p1 =>
              rw [hr3] at h9
              obtain ⟨τ4, a4, b4, c4⟩ := h9
              dsimp only
              rw [a4, Option.bind_some]
              dsimp only
              rw [if_neg (by decide)]
              have h10 := m_reg b4
              cases hr4 : sReg T n p1 with
              | inr f =>
                rw [hr4] at h10
                obtain ⟨τ5, a5, b5, c5⟩ := h10
                dsimp only
                rw [a5, Option.bind_some]
                exact ⟨τ5, rfl, b5, hF1.tr (((hF3.tr c4.qm).tr c5.qm).mono hqc)⟩
              | inl w =>
                rw [hr4] at h10
                obtain ⟨τ5, a5, b5, c5, d5⟩ := h10
                dsimp only at b5 d5 ⊢
                rw [a5, Option.bind_some]
                dsimp only
                rw [if_neg (by decide), if_pos hi]
                have hF : FR (Qm i.toNat) τ1 (pU τ5 114 i.toNat (τ5 84 22)) := ((hF3.tr c4.qm).tr c5.qm).tr (FR.u (Or.inr ⟨by decide, by decide, rfl⟩))
                have g : ∀ c, c ≠ 84 → c ≠ 113 → c ≠ 114 → pU τ5 114 i.toNat (τ5 84 22) c i.toNat = τ2 c i.toNat := fun c h1 h2 h3 => (pU_c _ _ _ _ h3).trans ((c5.1 _ _ h1).trans ((c4.1 _ _ h1).trans ((pU_c _ _ _ _ h2).trans (c3.1 _ _ h1))))
                refine ⟨_, rfl, b5.u _ _ (by decide) (by decide), hF1.tr (hF.mono hqc), (hF.get hn41).trans e41, ?_⟩
                unfold MR
                dsimp only
                exact ⟨(g 110 (by decide) (by decide) (by decide)).trans ((e2 _ _ (by decide) (by decide)).trans (e110.trans hk1)), (g 111 (by decide) (by decide) (by decide)).trans ((e2 _ _ (by decide) (by decide)).trans e111), (g 112 (by decide) (by decide) (by decide)).trans d2, fun _ => ⟨(pU_c _ _ _ _ (by decide)).trans ((c5.1 _ _ (by decide)).trans ((c4.1 _ _ (by decide)).trans (pU_s _ _ _ _))), (pU_s _ _ _ _).trans d5⟩, fun h => absurd h (by decide), fun h => absurd rfl h⟩
      · rw [if_neg hk1]
        have hk23 : ko (hd T n p) = 2 ∨ ko (hd T n p) = 3 := by omega
        have e : (if ko (hd T n p) = 2 then f_M_readsOp_84_p94 (ko (hd T n p)) i τ1 else if ko (hd T n p) = 3 then f_M_readsOp_84_p94 (ko (hd T n p)) i τ1 else f_M_readsOp_84_p137 (ko (hd T n p)) i τ1) = f_M_readsOp_84_p94 (ko (hd T n p)) i τ1 := by
          rcases hk23 with hk2 | hk3
          · rw [if_pos hk2]
          · rw [if_neg (by omega), if_pos hk3]
        rw [e]
        unfold sOp2 sMov f_M_readsOp_84_p94
        rw [m_here hT1, Option.bind_some]
        dsimp only
        rw [so_m, Option.bind_some, if_pos hi, if_pos hi]
        dsimp only
        rw [pU_s, hT1.1]
        have hsr := so_r (hd T n (p + 1))
        by_cases hz : so (hd T n (p + 1)) = 0
        · rw [if_pos hz, if_pos hz, if_pos rfl, m_wrong (by omega) (by omega)]
          exact ⟨pU (pU τ1 115 i.toNat (-1)) 84 21 (-1000 * 1 - (p + 1)), rfl, pU_s _ _ _ _, hF1.tr ((FR.u (Or.inr ⟨by decide, by decide, rfl⟩)).tr (FR.u (Or.inl ⟨rfl, by decide⟩)))⟩
        · have hp1 := so_in hz
          rw [if_neg hz, if_neg hz, if_neg (by omega), pw_id (z := p + 1 + 1) (by omega) (by omega)]
          generalize hτ2 : pU (pU τ1 115 i.toNat (so (hd T n (p + 1)))) 84 19 (p + 1 + 1) = τ2
          have hT2 : TM τ2 T n (p + 1 + 1) := by
            rw [← hτ2]
            exact (hT1.u _ _ (by decide) (by decide)).at (pU_s _ _ _ _) (pU_i _ _ _ _ (by decide)) (fun x => pU_c _ _ _ _ (by decide)) (by omega) (by omega)
          have hF2 : FR (Qm i.toNat) τ1 τ2 := by
            rw [← hτ2]
            exact (FR.u (Or.inr ⟨by decide, by decide, rfl⟩)).tr (FR.u (Or.inl ⟨rfl, by decide⟩))
          have e115 : τ2 115 i.toNat = so (hd T n (p + 1)) := by rw [← hτ2]; simp [pU]
          have g2 : ∀ c x, c ≠ 84 → c ≠ 115 → τ2 c x = τ1 c x := fun c x h1 h2 => by rw [← hτ2]; exact (pU_c _ _ _ _ h1).trans (pU_c _ _ _ _ h2)
          have h7 := m_137 (k := ko (hd T n p)) hT2 hi
          cases hr : sGiv T n (p + 1 + 1) with
          | inr f =>
            rw [hr] at h7
            obtain ⟨τ3, a3, b3, c3⟩ := h7
            exact ⟨τ3, a3, b3, hF1.tr ((hF2.tr c3).mono hqc)⟩
          | inl q =>
            rw [hr] at h7
            obtain ⟨τ3, a3, b3, c3, d3, e3⟩ := h7
            dsimp only at b3 d3 ⊢
            rw [a3]
            have et : m_tail (ko (hd T n p)) i τ3 = f_M_readsOp_84_p177 i τ3 := by
              unfold m_tail
              rcases hk23 with hk2 | hk3
              · rw [if_pos hk2]
              · rw [if_neg (by omega), if_pos hk3]
            rw [et]
            have h8 := m_177 b3 hi
            cases hq : sPlc T n q.2 with
            | inr f =>
              rw [hq] at h8
              obtain ⟨τ4, a4, b4, c4⟩ := h8
              exact ⟨τ4, a4, b4, hF1.tr (((hF2.tr c3).tr (c4.mono hqp)).mono hqc)⟩
            | inl w =>
              rw [hq] at h8
              obtain ⟨τ4, a4, b4, c4, d4, e4⟩ := h8
              dsimp only at b4 d4 e4 ⊢
              have hF : FR (Qm i.toNat) τ1 τ4 := (hF2.tr c3).tr (c4.mono hqp)
              have g : ∀ c, c ≠ 84 → c ≠ 112 → c ≠ 116 → c ≠ 117 → τ4 c i.toNat = τ2 c i.toNat := fun c h1 h2 h3 h4 => (c4.get (by unfold Qp; omega)).trans (e3 _ _ h1 h2)
              refine ⟨τ4, a4, b4, hF1.tr (hF.mono hqc), (hF.get hn41).trans e41, ?_⟩
              unfold MR
              dsimp only
              exact ⟨(g 110 (by decide) (by decide) (by decide) (by decide)).trans ((g2 _ _ (by decide) (by decide)).trans e110), (g 111 (by decide) (by decide) (by decide) (by decide)).trans ((g2 _ _ (by decide) (by decide)).trans e111), (c4.get (by unfold Qp; omega)).trans d3, fun h => absurd h hk1, fun _ => ⟨(g 115 (by decide) (by decide) (by decide) (by decide)).trans e115, d4⟩, fun _ => e4⟩
theorem m_op20 {τ : pS} {p : Int} (h : TM τ T n p) (h41 : τ 84 41 = 20) : ∃ τ', f_M_readsOp_84 τ = some (0, τ') ∧ τ' 84 21 = (if ko (hd T n p) = -1 then -1000 * 1 - p else -1000 * 4 - p) ∧ MO τ τ' := by
  have h' := h
  obtain ⟨h1, h2, ⟨h3, h4, h5⟩, h6⟩ := h'
  unfold f_M_readsOp_84
  rw [m_here h, Option.bind_some]
  dsimp only
  rw [ko_m, Option.bind_some]
  dsimp only
  by_cases hk : ko (hd T n p) = -1
  · rw [if_pos hk, if_pos hk, h1, m_wrong (by omega) (by omega)]
    exact ⟨pU τ 84 21 (-1000 * 1 - p), rfl, pU_s _ _ _ _, MO.u _ (by omega)⟩
  · rw [if_neg hk, if_neg hk, if_pos h41, h1, m_wrong (by omega) (by omega)]
    exact ⟨pU τ 84 21 (-1000 * 4 - p), rfl, pU_s _ _ _ _, MO.u _ (by omega)⟩
end MO6
def VR (r : O8) : Prop := (0 ≤ r.1 ∧ r.1 ≤ 3) ∧ (0 ≤ r.2.2.2.1 ∧ r.2.2.2.1 ≤ 7) ∧ ((r.1 = 1 ∧ (0 ≤ r.2.2.2.2.1 ∧ r.2.2.2.2.1 ≤ 7) ∧ (0 ≤ r.2.2.2.2.2.1 ∧ r.2.2.2.2.2.1 ≤ 7)) ∨ (r.1 ≠ 1 ∧ r.2.2.2.2.1 = -1 ∧ r.2.2.2.2.2.1 = -1)) ∧ ((2 ≤ r.1 ∧ (r.2.2.1 = 1 ∨ r.2.2.1 = 2 ∨ r.2.2.1 = 4) ∧ (-1 ≤ r.2.2.2.2.2.2.1 ∧ r.2.2.2.2.2.2.1 ≤ 7)) ∨ (r.1 < 2 ∧ r.2.2.1 = 0 ∧ r.2.2.2.2.2.2.1 = -1)) ∧ (0 ≤ r.2.2.2.2.2.2.2 ∧ r.2.2.2.2.2.2.2 ≤ 9999) ∧ (r.1 = 1 → r.2.2.2.2.2.2.2 = 0) ∧ r.1 = ko r.2.1
section SV
variable {T : Nat → Int} {n : Int}
theorem sReg_i {p : Int} {q : Int × Int} (h : sReg T n p = .inl q) : 0 ≤ q.1 ∧ q.1 ≤ 7 ∧ q.2 = p + 1 := by
  unfold sReg at h
  split at h
  · cases h
    exact ⟨by dsimp only; omega, by dsimp only; omega, rfl⟩
  · cases h
theorem sReg_f {p f : Int} (h : sReg T n p = .inr f) : f = -1000 * 1 - p := by
  unfold sReg at h
  split at h
  · cases h
  · cases h
    rfl
theorem sTak_i {c p q : Int} (h : sTak T n c p = .inl q) : q = p + 1 := by
  unfold sTak at h
  split at h
  · cases h
    rfl
  · cases h
theorem sTak_f {c p f : Int} (h : sTak T n c p = .inr f) : f = -1000 * 1 - p := by
  unfold sTak at h
  split at h
  · cases h
  · cases h
    rfl
theorem nm_f2 : ∀ (r : Nat) (v p f : Int), nm T n r v p = .inr f → f ≤ -1000 * 2 - p
  | 0, v, p, f, h => by
    unfold nm at h
    split at h
    · cases h; exact Int.le_refl _
    · cases h
  | r + 1, v, p, f, h => by
    unfold nm at h
    split at h
    · have := nm_f2 r _ _ f h; omega
    · cases h
theorem nm_v {m : Nat} : ∀ (r : Nat) (v p : Int) (q : Int × Int), 0 ≤ v → (v + 1) * p10 r ≤ p10 m → nm T n r v p = .inl q → 0 ≤ q.1 ∧ q.1 + 1 ≤ p10 m
  | 0, v, p, q, h0, hb, h => by
    unfold nm at h
    split at h
    · cases h
    · cases h; exact ⟨h0, p10_le h0 hb⟩
  | r + 1, v, p, q, h0, hb, h => by
    unfold nm at h
    split at h
    · exact nm_v r _ _ q (by omega) (p10_st (by omega) hb) h
    · cases h; exact ⟨h0, p10_le h0 hb⟩
theorem sNum_f {m : Nat} {p f : Int} (h : sNum T n m p = .inr f) : f ≤ -1000 * 1 - p := by
  unfold sNum at h
  split at h
  · have := nm_f2 _ _ _ f h; omega
  · cases h; exact Int.le_refl _
theorem sNum_v {m : Nat} {p : Int} {q : Int × Int} (h : sNum T n m p = .inl q) : 0 ≤ q.1 ∧ q.1 + 1 ≤ p10 m := by
  unfold sNum at h
  split at h
  · exact nm_v m 0 p q (Int.le_refl _) (by rw [Int.zero_add, Int.one_mul]; exact Int.le_refl _) h
  · cases h
theorem sGiv_i {p : Int} {q : Int × Int} (h : sGiv T n p = .inl q) : 0 ≤ q.1 ∧ q.1 ≤ 7 ∧ q.2 = p + 1 + 1 := by
  unfold sGiv at h
  split at h
  · cases h
  · rename_i u hu
    split at h
    · cases h
    · rename_i v hv
      cases h
      have := sReg_i hu
      have := sTak_i hv
      dsimp only
      omega
theorem sGiv_f {p f : Int} (h : sGiv T n p = .inr f) : f ≤ -1000 * 1 - p := by
  unfold sGiv at h
  split at h
  · rename_i g hg
    cases h
    have := sReg_f hg
    omega
  · rename_i u hu
    split at h
    · rename_i g hg
      cases h
      have := sReg_i hu
      have := sTak_f hg
      omega
    · cases h
theorem sPlN_i {b p : Int} {q : (Int × Int) × Int} (h : sPlN T n b p = .inl q) : q.1.1 = b ∧ 0 ≤ q.1.2 ∧ q.1.2 ≤ 9999 ∧ p < q.2 := by
  unfold sPlN at h
  split at h
  · cases h
  · rename_i u hu
    cases h
    have h1 := sNum_v hu
    have h2 := sNum_gt (by decide) hu
    have e4 : p10 4 = 10000 := by decide
    dsimp only
    omega
theorem sPlN_f {b p f : Int} (h : sPlN T n b p = .inr f) : f ≤ -1000 * 1 - p := by
  unfold sPlN at h
  split at h
  · rename_i g hg
    cases h
    exact sNum_f hg
  · cases h
theorem sPlc_i {p : Int} {q : (Int × Int) × Int} (h : sPlc T n p = .inl q) : (-1 ≤ q.1.1 ∧ q.1.1 ≤ 7) ∧ 0 ≤ q.1.2 ∧ q.1.2 ≤ 9999 ∧ p < q.2 := by
  unfold sPlc at h
  split at h
  · split at h
    · cases h
    · rename_i u hu
      split at h
      · cases h
      · rename_i v hv
        have h1 := sPlN_i h
        have h2 := sReg_i hu
        have h3 := sTak_i hv
        omega
  · have h1 := sPlN_i h
    omega
theorem sPlc_f {p f : Int} (h : sPlc T n p = .inr f) : f ≤ -1000 * 1 - p := by
  unfold sPlc at h
  split at h
  · split at h
    · rename_i g hg
      cases h
      have := sReg_f hg
      omega
    · rename_i u hu
      split at h
      · rename_i g hg
        cases h
        have := sReg_i hu
        have := sTak_f hg
        omega
      · rename_i v hv
        have h1 := sPlN_f h
        have h2 := sReg_i hu
        have h3 := sTak_i hv
        omega
  · have h1 := sPlN_f h
    omega
theorem so_v {c : Int} (h : so c ≠ 0) : so c = 1 ∨ so c = 2 ∨ so c = 4 := by
  unfold so at h ⊢
  repeat' split
  all_goals first | omega | (exfalso; simp_all)
theorem sMov_i {p : Int} {q : (Int × Int × Int × Int) × Int} (h : sMov T n p = .inl q) : (q.1.1 = 1 ∨ q.1.1 = 2 ∨ q.1.1 = 4) ∧ (0 ≤ q.1.2.1 ∧ q.1.2.1 ≤ 7) ∧ (-1 ≤ q.1.2.2.1 ∧ q.1.2.2.1 ≤ 7) ∧ (0 ≤ q.1.2.2.2 ∧ q.1.2.2.2 ≤ 9999) ∧ p < q.2 := by
  unfold sMov at h
  split at h
  · cases h
  · rename_i hz
    split at h
    · cases h
    · rename_i u hu
      split at h
      · cases h
      · rename_i v hv
        cases h
        have h1 := sGiv_i hu
        have h2 := sPlc_i hv
        have h3 := so_v hz
        dsimp only
        omega
theorem sMov_f {p f : Int} (h : sMov T n p = .inr f) : f ≤ -1000 * 1 - p := by
  unfold sMov at h
  split at h
  · cases h; exact Int.le_refl _
  · split at h
    · rename_i g hg
      cases h
      have := sGiv_f hg
      omega
    · rename_i u hu
      split at h
      · rename_i g hg
        cases h
        have := sGiv_i hu
        have := sPlc_f hg
        omega
      · cases h
theorem sOp_f {p f : Int} (h : sOp T n p = .inr f) : f ≤ -1000 * 1 - p := by
  unfold sOp at h
  split at h
  · cases h; exact Int.le_refl _
  · split at h
    · unfold sOp0 at h
      split at h
      · rename_i g hg
        cases h
        have := sGiv_f hg
        omega
      · rename_i u hu
        split at h
        · rename_i g hg
          cases h
          have := sGiv_i hu
          have := sNum_f hg
          omega
        · cases h
    · split at h
      · unfold sOp1 at h
        split at h
        · rename_i g hg
          cases h
          have := sGiv_f hg
          omega
        · rename_i u hu
          have a1 := sGiv_i hu
          split at h
          · rename_i g hg
            cases h
            have := sReg_f hg
            omega
          · rename_i v hv
            have a2 := sReg_i hv
            split at h
            · rename_i g hg
              cases h
              have := sTak_f hg
              omega
            · rename_i w hw
              have a3 := sTak_i hw
              split at h
              · rename_i g hg
                cases h
                have := sReg_f hg
                omega
              · cases h
      · unfold sOp2 at h
        split at h
        · rename_i g hg
          cases h
          have := sMov_f hg
          omega
        · cases h
theorem sOp_i {p : Int} {q : O8 × Int} (h : sOp T n p = .inl q) : VR q.1 ∧ p < q.2 := by
  have hkr := ko_r (hd T n p)
  unfold sOp at h
  split at h
  · cases h
  · rename_i hk
    split at h
    · rename_i hk0
      unfold sOp0 at h
      split at h
      · cases h
      · rename_i u hu
        split at h
        · cases h
        · rename_i w hw
          cases h
          have a1 := sGiv_i hu
          have a2 := sNum_v hw
          have a3 := sNum_gt (by decide) hw
          have e4 : p10 4 = 10000 := by decide
          unfold VR
          dsimp only
          exact ⟨⟨⟨by omega, by omega⟩, ⟨by omega, by omega⟩, Or.inr ⟨by omega, rfl, rfl⟩, Or.inr ⟨by omega, rfl, rfl⟩, ⟨by omega, by omega⟩, fun h => by omega, hk0.symm⟩, by omega⟩
    · split at h
      · rename_i hk1
        unfold sOp1 at h
        split at h
        · cases h
        · rename_i u hu
          have a1 := sGiv_i hu
          split at h
          · cases h
          · rename_i v hv
            have a2 := sReg_i hv
            split at h
            · cases h
            · rename_i w hw
              have a3 := sTak_i hw
              split at h
              · cases h
              · rename_i x hx
                have a4 := sReg_i hx
                cases h
                unfold VR
                dsimp only
                exact ⟨⟨⟨by omega, by omega⟩, ⟨by omega, by omega⟩, Or.inl ⟨rfl, ⟨by omega, by omega⟩, ⟨by omega, by omega⟩⟩, Or.inr ⟨by omega, rfl, rfl⟩, ⟨by omega, by omega⟩, fun _ => rfl, hk1.symm⟩, by omega⟩
      · rename_i hk0 hk1
        unfold sOp2 at h
        split at h
        · cases h
        · rename_i w hw
          have a1 := sMov_i hw
          cases h
          unfold VR
          dsimp only
          exact ⟨⟨⟨by omega, by omega⟩, a1.2.1, Or.inr ⟨hk1, rfl, rfl⟩, Or.inl ⟨by omega, a1.1, a1.2.2.1⟩, a1.2.2.2.1, fun h => absurd h hk1, rfl⟩, by omega⟩
end SV
/-- the places of cell j from i on to n hold v -/
def pFl (σ : pS) (j n i : Nat) (v : Int) : pS := fun k x => if k = j ∧ i ≤ x ∧ x < n then v else σ k x
theorem pFl_end (σ : pS) (j n : Nat) (v : Int) : pFl σ j n n v = σ := by
  funext k x
  exact if_neg (by omega)
theorem pFl_st (σ : pS) (j n i : Nat) (v : Int) (h : i < n) : pFl (pU σ j i v) j n (i + 1) v = pFl σ j n i v := by
  funext k x
  unfold pFl pU
  by_cases hk : k = j
  · by_cases hx : x = i
    · rw [if_neg (by omega), if_pos ⟨hk, hx⟩, if_pos (by omega)]
    · by_cases h2 : i ≤ x ∧ x < n
      · rw [if_pos (by omega), if_pos ⟨hk, h2⟩]
      · rw [if_neg (by omega), if_neg (by omega), if_neg (by omega)]
  · rw [if_neg (by omega), if_neg (by omega), if_neg (by omega)]
theorem fl_55 (v : Int) : ∀ (d i fu : Nat) (σ : pS), i + d = 8 → d < fu → f_Arrays_fill_55_p5 fu v (i : Int) 8 σ = some (0, pFl σ 55 8 i v)
  | 0, i, fu, σ, h, hf => by
    obtain ⟨fu, rfl⟩ : ∃ k, fu = k + 1 := ⟨fu - 1, by omega⟩
    obtain rfl : i = 8 := by omega
    unfold f_Arrays_fill_55_p5
    rw [if_pos (by omega), pFl_end]
  | d + 1, i, fu, σ, h, hf => by
    obtain ⟨fu, rfl⟩ : ∃ k, fu = k + 1 := ⟨fu - 1, by omega⟩
    unfold f_Arrays_fill_55_p5
    rw [if_neg (by omega), if_pos (by omega), pw_id (by omega) (by omega), show ((i : Int) + 1) = ((i + 1 : Nat) : Int) by omega, fl_55 v d (i + 1) fu _ (by omega) (by omega), Int.toNat_natCast, pFl_st _ _ _ _ _ (by omega)]
theorem fill_55 (v : Int) (σ : pS) : f_Arrays_fill_55 v σ = some (0, pFl σ 55 8 0 v) := fl_55 v 8 0 4096 σ (by omega) (by omega)
theorem fl_27 (v : Int) : ∀ (d i fu : Nat) (σ : pS), i + d = 20 → d < fu → f_Arrays_fill_27_p5 fu v (i : Int) 20 σ = some (0, pFl σ 27 20 i v)
  | 0, i, fu, σ, h, hf => by
    obtain ⟨fu, rfl⟩ : ∃ k, fu = k + 1 := ⟨fu - 1, by omega⟩
    obtain rfl : i = 20 := by omega
    unfold f_Arrays_fill_27_p5
    rw [if_pos (by omega), pFl_end]
  | d + 1, i, fu, σ, h, hf => by
    obtain ⟨fu, rfl⟩ : ∃ k, fu = k + 1 := ⟨fu - 1, by omega⟩
    unfold f_Arrays_fill_27_p5
    rw [if_neg (by omega), if_pos (by omega), pw_id (by omega) (by omega), show ((i : Int) + 1) = ((i + 1 : Nat) : Int) by omega, fl_27 v d (i + 1) fu _ (by omega) (by omega), Int.toNat_natCast, pFl_st _ _ _ _ _ (by omega)]
theorem fill_27 (v : Int) (σ : pS) : f_Arrays_fill_27 v σ = some (0, pFl σ 27 20 0 v) := fl_27 v 20 0 4096 σ (by omega) (by omega)
theorem fl_83 (v : Int) : ∀ (d i fu : Nat) (σ : pS), i + d = 2 → d < fu → f_Arrays_fill_83_p5 fu v (i : Int) 2 σ = some (0, pFl σ 83 2 i v)
  | 0, i, fu, σ, h, hf => by
    obtain ⟨fu, rfl⟩ : ∃ k, fu = k + 1 := ⟨fu - 1, by omega⟩
    obtain rfl : i = 2 := by omega
    unfold f_Arrays_fill_83_p5
    rw [if_pos (by omega), pFl_end]
  | d + 1, i, fu, σ, h, hf => by
    obtain ⟨fu, rfl⟩ : ∃ k, fu = k + 1 := ⟨fu - 1, by omega⟩
    unfold f_Arrays_fill_83_p5
    rw [if_neg (by omega), if_pos (by omega), pw_id (by omega) (by omega), show ((i : Int) + 1) = ((i + 1 : Nat) : Int) by omega, fl_83 v d (i + 1) fu _ (by omega) (by omega), Int.toNat_natCast, pFl_st _ _ _ _ _ (by omega)]
theorem fill_83 (v : Int) (σ : pS) : f_Arrays_fill_83 v σ = some (0, pFl σ 83 2 0 v) := fl_83 v 2 0 4096 σ (by omega) (by omega)
/-- the last one below i that gives r -/
def gv (g : Nat → Int) : Nat → Int → Int
  | 0, _ => -1
  | i + 1, r => if g i = r then (i : Int) else gv g i r
theorem gv_r (g : Nat → Int) (r : Int) : ∀ i : Nat, -1 ≤ gv g i r ∧ gv g i r < i
  | 0 => by unfold gv; omega
  | i + 1 => by
    have := gv_r g r i
    unfold gv
    split <;> omega
def src (g : Nat → Int) (i : Nat) (r : Int) : Int := if 0 ≤ r ∧ r < 8 then gv g i r else -1
theorem src_r (g : Nat → Int) (i : Nat) (r : Int) : -1 ≤ src g i r ∧ src g i r < i := by
  unfold src
  split
  · exact gv_r g r i
  · omega
def dz (D : Nat → Int) (s : Int) : Int := if s < 0 then 0 else D s.toNat
theorem x_isCell {a : Int} {σ : pS} : f_X_isCell a σ = some (if 0 ≤ a ∧ a < 8 then 1 else 0, σ) := by
  unfold f_X_isCell
  by_cases h1 : a < 0
  · rw [if_pos h1, if_neg (by omega)]
  · by_cases h2 : 8 ≤ a
    · rw [if_neg h1, if_pos h2, if_neg (by omega)]
    · rw [if_neg h1, if_neg h2, if_pos (by omega)]
theorem c_gor {a : Int} {σ : pS} : f_Prog_giverOfRegister_45 a σ = some (if 0 ≤ a ∧ a < 8 then σ 55 a.toNat else -1, σ) := by
  unfold f_Prog_giverOfRegister_45
  rw [x_isCell, Option.bind_some]
  dsimp only
  by_cases h : 0 ≤ a ∧ a < 8
  · rw [if_pos h, if_neg (by decide), if_pos h, if_pos h]
  · rw [if_neg h, if_pos rfl, if_neg h]
theorem c_dof {a : Int} {σ : pS} (ha : a < 20) : f_Prog_depthOf_45 a σ = some (dz (σ 56) a, σ) := by
  unfold f_Prog_depthOf_45 dz
  by_cases h : a < 0
  · rw [if_pos h, if_pos h]
  · rw [if_neg h, if_neg h, if_neg (by omega), if_pos (by omega)]
def FS (g F S : Nat → Int) (σ : pS) (i : Nat) : Prop :=
  (∀ j, j < 20 → σ 49 j = g j ∧ σ 50 j = F j ∧ σ 51 j = S j) ∧ (∀ r : Nat, r < 8 → σ 55 r = gv g i r) ∧
  (∀ j, j < i → σ 53 j = src g j (F j) ∧ σ 54 j = src g j (S j) ∧ (1 ≤ σ 56 j ∧ σ 56 j ≤ (j : Int) + 1) ∧ σ 56 j = 1 + pMax (dz (σ 56) (src g j (F j))) (dz (σ 56) (src g j (S j)))) ∧
  (0 ≤ σ 45 12 ∧ (∀ j, j < i → σ 56 j ≤ σ 45 12) ∧ (i = 0 → σ 45 12 = 0) ∧ (0 < i → ∃ j, j < i ∧ σ 45 12 = σ 56 j))
def Ps (k x : Nat) : Prop := k = 53 ∨ k = 54 ∨ k = 55 ∨ k = 56 ∨ (k = 45 ∧ x = 12)
theorem c_fs {g F S : Nat → Int} {m : Nat} (hm : m ≤ 20) (hg : ∀ j, j < m → -1 ≤ g j ∧ g j ≤ 7) : ∀ (d i fu : Nat) (σ : pS), i + d = m → d < fu → σ 45 11 = (m : Int) → FS g F S σ i → ∃ σ', f_Prog_findSources_45_p15 fu (i : Int) σ = some (0, σ') ∧ FS g F S σ' m ∧ FR Ps σ σ'
  | 0, i, fu, σ, hd, hf, h11, hF => by
    obtain ⟨fu, rfl⟩ : ∃ k, fu = k + 1 := ⟨fu - 1, by omega⟩
    obtain rfl : i = m := by omega
    refine ⟨σ, ?_, hF, FR.rf _ _⟩
    unfold f_Prog_findSources_45_p15
    rw [if_pos (by omega)]
  | d + 1, i, fu, σ, hd, hf, h11, hF => by
    obtain ⟨fu, rfl⟩ : ∃ k, fu = k + 1 := ⟨fu - 1, by omega⟩
    have hF0 := hF
    obtain ⟨f1, f2, f3, f4, f5, f6, f7⟩ := hF
    have hi : 0 ≤ (i : Int) ∧ (i : Int) < 20 := by omega
    obtain ⟨g1, g2, g3⟩ := f1 i (by omega)
    have hgi := hg i (by omega)
    have s1 := src_r g i (F i)
    have s2 := src_r g i (S i)
    have e1 : ∀ r : Int, (if 0 ≤ r ∧ r < 8 then σ 55 r.toNat else -1) = src g i r := by
      intro r
      unfold src
      by_cases hr : 0 ≤ r ∧ r < 8
      · rw [if_pos hr, if_pos hr, f2 r.toNat (by omega), Int.toNat_of_nonneg hr.1]
      · rw [if_neg hr, if_neg hr]
    have hdz : ∀ (s : Int), s < i → 0 ≤ dz (σ 56) s ∧ dz (σ 56) s ≤ i := by
      intro s hs
      unfold dz
      by_cases h0 : s < 0
      · rw [if_pos h0]; omega
      · rw [if_neg h0]
        have := (f3 s.toNat (by omega)).2.2.1
        omega
    have z1 := hdz _ s1.2
    have z2 := hdz _ s2.2
    generalize hA : src g i (F i) = A at *
    generalize hB : src g i (S i) = B at *
    have hmx : pMax (dz (σ 56) A) (dz (σ 56) B) ≤ i ∧ 0 ≤ pMax (dz (σ 56) A) (dz (σ 56) B) := by
      unfold pMax
      split <;> omega
    generalize hσ1 : pU (pU (pU (pU σ 53 i A) 54 i B) 56 i (1 + pMax (dz (σ 56) A) (dz (σ 56) B))) 45 12 (pMax (σ 45 12) (1 + pMax (dz (σ 56) A) (dz (σ 56) B))) = σ1
    have st : f_Prog_findSources_45_p15 (fu + 1) (i : Int) σ = if 0 ≤ g i ∧ g i < 8 then f_Prog_findSources_45_p15 fu ((i + 1 : Nat) : Int) (pU σ1 55 (g i).toNat (i : Int)) else f_Prog_findSources_45_p15 fu ((i + 1 : Nat) : Int) σ1 := by
      rw [f_Prog_findSources_45_p15]
      rw [if_neg (by omega), if_neg (by omega), if_pos hi, c_gor, Option.bind_some, if_pos hi, if_pos hi]
      dsimp only
      rw [Int.toNat_natCast, g2, e1, hA, c_gor, Option.bind_some, if_pos hi, if_pos hi]
      dsimp only
      rw [g3, pU_c _ _ _ _ (show 55 ≠ 53 by decide), e1, hB, pU_s, c_dof (by omega), Option.bind_some, if_pos hi]
      dsimp only
      rw [pU_s, c_dof (by omega), Option.bind_some, if_pos hi, if_pos hi, if_pos hi]
      dsimp only
      have ez : ∀ s, dz ((pU (pU σ 53 i A) 54 i B) 56) s = dz (σ 56) s := fun s => by
        unfold dz
        rw [pU_c _ _ _ _ (show 56 ≠ 54 by decide), pU_c _ _ _ _ (show 56 ≠ 53 by decide)]
      rw [ez, ez, pw_id (by omega) (by omega), pU_s, pU_c _ _ _ _ (show 45 ≠ 54 by decide), pU_c _ _ _ _ (show 45 ≠ 53 by decide), pU_c _ _ _ _ (show 49 ≠ 54 by decide), pU_c _ _ _ _ (show 49 ≠ 53 by decide), g1, hσ1, x_isCell, Option.bind_some]
      dsimp only
      have e49 : σ1 49 i = g i := by rw [← hσ1]; simp [pU, g1]
      rw [pw_id (by omega) (by omega), show ((i : Int) + 1) = ((i + 1 : Nat) : Int) by omega]
      by_cases hc : 0 ≤ g i ∧ g i < 8
      · rw [if_pos hc, if_pos hc, if_neg (by decide), if_pos hi, if_pos (show 0 ≤ σ1 49 i ∧ σ1 49 i < 8 by rw [e49]; exact hc), e49]
      · rw [if_neg hc, if_neg hc, if_pos rfl]
    -- the new state
    have q56 : ∀ j, σ1 56 j = if j = i then 1 + pMax (dz (σ 56) A) (dz (σ 56) B) else σ 56 j := by
      intro j
      rw [← hσ1, pU_c _ _ _ _ (show 56 ≠ 45 by decide)]
      by_cases hj : j = i
      · rw [if_pos hj, hj, pU_s]
      · rw [if_neg hj, pU_i _ _ _ _ hj, pU_c _ _ _ _ (show 56 ≠ 54 by decide), pU_c _ _ _ _ (show 56 ≠ 53 by decide)]
    have q12 : σ1 45 12 = pMax (σ 45 12) (1 + pMax (dz (σ 56) A) (dz (σ 56) B)) := by rw [← hσ1]; exact pU_s _ _ _ _
    have qn : ∀ k x, k ≠ 53 → k ≠ 54 → k ≠ 56 → ¬ (k = 45 ∧ x = 12) → σ1 k x = σ k x := by
      intro k x h1 h2 h3 h4
      rw [← hσ1]
      rw [show pU (pU (pU (pU σ 53 i A) 54 i B) 56 i (1 + pMax (dz (σ 56) A) (dz (σ 56) B))) 45 12 (pMax (σ 45 12) (1 + pMax (dz (σ 56) A) (dz (σ 56) B))) k x = pU (pU (pU σ 53 i A) 54 i B) 56 i (1 + pMax (dz (σ 56) A) (dz (σ 56) B)) k x from if_neg h4, pU_c _ _ _ _ h3, pU_c _ _ _ _ h2, pU_c _ _ _ _ h1]
    have q53 : ∀ j, σ1 53 j = if j = i then A else σ 53 j := by
      intro j
      rw [← hσ1, pU_c _ _ _ _ (show 53 ≠ 45 by decide), pU_c _ _ _ _ (show 53 ≠ 56 by decide), pU_c _ _ _ _ (show 53 ≠ 54 by decide)]
      by_cases hj : j = i
      · rw [if_pos hj, hj, pU_s]
      · rw [if_neg hj, pU_i _ _ _ _ hj]
    have q54 : ∀ j, σ1 54 j = if j = i then B else σ 54 j := by
      intro j
      rw [← hσ1, pU_c _ _ _ _ (show 54 ≠ 45 by decide), pU_c _ _ _ _ (show 54 ≠ 56 by decide)]
      by_cases hj : j = i
      · rw [if_pos hj, hj, pU_s]
      · rw [if_neg hj, pU_i _ _ _ _ hj, pU_c _ _ _ _ (show 54 ≠ 53 by decide)]
    have edz : ∀ s : Int, s < i → dz (σ1 56) s = dz (σ 56) s := by
      intro s hs
      unfold dz
      by_cases h0 : s < 0
      · rw [if_pos h0, if_pos h0]
      · rw [if_neg h0, if_neg h0, q56, if_neg (by omega)]
    have hFr1 : FR Ps σ σ1 := fun k x => by
      by_cases h1 : k = 53 ∨ k = 54 ∨ k = 56 ∨ (k = 45 ∧ x = 12)
      · exact Or.inl (by unfold Ps; omega)
      · exact Or.inr (qn k x (by omega) (by omega) (by omega) (by omega))
    have hmain : ∀ σ2 : pS, (∀ k x, k ≠ 55 → σ2 k x = σ1 k x) → (∀ r : Nat, r < 8 → σ2 55 r = gv g (i + 1) r) → FS g F S σ2 (i + 1) := by
      intro σ2 hs hgv
      have e56 : σ2 56 = σ1 56 := funext (fun x => hs 56 x (by decide))
      refine ⟨fun j hj => ?_, hgv, fun j hj => ?_, ?_⟩
      · rw [hs _ _ (by decide), hs _ _ (by decide), hs _ _ (by decide), qn _ _ (by decide) (by decide) (by decide) (by omega), qn _ _ (by decide) (by decide) (by decide) (by omega), qn _ _ (by decide) (by decide) (by decide) (by omega)]
        exact f1 j hj
      · rw [hs _ _ (by decide), hs _ _ (by decide), e56, q53, q54]
        by_cases hji : j = i
        · subst hji
          rw [if_pos rfl, if_pos rfl, hA, hB, edz _ s1.2, edz _ s2.2, q56, if_pos rfl]
          exact ⟨rfl, rfl, ⟨by omega, by omega⟩, rfl⟩
        · have hj' : j < i := by omega
          obtain ⟨a1, a2, a3, a4⟩ := f3 j hj'
          have b1 := src_r g j (F j)
          have b2 := src_r g j (S j)
          rw [if_neg hji, if_neg hji, edz _ (by omega), edz _ (by omega), q56, if_neg hji]
          exact ⟨a1, a2, a3, a4⟩
      · rw [hs _ _ (by decide), e56, q12]
        have hmx2 : σ 45 12 ≤ pMax (σ 45 12) (1 + pMax (dz (σ 56) A) (dz (σ 56) B)) ∧ 1 + pMax (dz (σ 56) A) (dz (σ 56) B) ≤ pMax (σ 45 12) (1 + pMax (dz (σ 56) A) (dz (σ 56) B)) ∧ (pMax (σ 45 12) (1 + pMax (dz (σ 56) A) (dz (σ 56) B)) = σ 45 12 ∨ pMax (σ 45 12) (1 + pMax (dz (σ 56) A) (dz (σ 56) B)) = 1 + pMax (dz (σ 56) A) (dz (σ 56) B)) := by
          generalize 1 + pMax (dz (σ 56) A) (dz (σ 56) B) = z
          unfold pMax
          split <;> omega
        refine ⟨by omega, fun j hj => ?_, fun h => absurd h (by omega), fun _ => ?_⟩
        · rw [q56]
          by_cases hji : j = i
          · rw [if_pos hji]; omega
          · rw [if_neg hji]
            have := f5 j (by omega)
            omega
        · rcases hmx2.2.2 with h | h
          · by_cases hi0 : i = 0
            · exact ⟨i, by omega, by rw [q56, if_pos rfl]; have := f6 hi0; omega⟩
            · obtain ⟨j, hj, e⟩ := f7 (by omega)
              exact ⟨j, by omega, by rw [q56, if_neg (by omega)]; omega⟩
          · exact ⟨i, by omega, by rw [q56, if_pos rfl]; exact h⟩
    rw [st]
    by_cases hc : 0 ≤ g i ∧ g i < 8
    · rw [if_pos hc]
      have hFS := hmain (pU σ1 55 (g i).toNat (i : Int)) (fun k x h => pU_c _ _ _ _ h) (fun r hr => by
        unfold gv
        by_cases h : g i = r
        · rw [if_pos h, show r = (g i).toNat by omega]
          exact pU_s _ _ _ _
        · rw [if_neg h, pU_i _ _ _ _ (by omega), qn _ _ (by decide) (by decide) (by decide) (by omega)]
          exact f2 r hr)
      obtain ⟨σ', a, b, c⟩ := c_fs hm hg d (i + 1) fu _ (by omega) (by omega) (by rw [pU_c _ _ _ _ (by decide), qn _ _ (by decide) (by decide) (by decide) (by omega)]; exact h11) hFS
      exact ⟨σ', a, b, (hFr1.tr (FR.u (Or.inr (Or.inr (Or.inl rfl))))).tr c⟩
    · rw [if_neg hc]
      have hFS := hmain σ1 (fun k x h => rfl) (fun r hr => by
        unfold gv
        rw [if_neg (by omega), qn _ _ (by decide) (by decide) (by decide) (by omega)]
        exact f2 r hr)
      obtain ⟨σ', a, b, c⟩ := c_fs hm hg d (i + 1) fu _ (by omega) (by omega) (by rw [qn _ _ (by decide) (by decide) (by decide) (by omega)]; exact h11) hFS
      exact ⟨σ', a, b, hFr1.tr c⟩
theorem c_find {m : Nat} {σ : pS} (hm : m ≤ 20) (hg : ∀ j, j < m → -1 ≤ σ 49 j ∧ σ 49 j ≤ 7) (h11 : σ 45 11 = (m : Int)) : ∃ σ', f_Prog_findSources_45 σ = some (0, σ') ∧ FS (σ 49) (σ 50) (σ 51) σ' m ∧ FR Ps σ σ' := by
  unfold f_Prog_findSources_45
  rw [fill_55, Option.bind_some]
  dsimp only
  have hn : ∀ k x, k ≠ 55 → ¬ (k = 45 ∧ x = 12) → pU (pFl σ 55 8 0 (-1)) 45 12 0 k x = σ k x := fun k x h1 h2 => (if_neg h2).trans (if_neg (fun h => h1 h.1))
  have hFS : FS (σ 49) (σ 50) (σ 51) (pU (pFl σ 55 8 0 (-1)) 45 12 0) 0 := by
    refine ⟨fun j _ => ⟨hn _ _ (by decide) (by omega), hn _ _ (by decide) (by omega), hn _ _ (by decide) (by omega)⟩, fun r hr => ?_, fun j hj => absurd hj (by omega), by rw [pU_s]; exact Int.le_refl _, fun j hj => absurd hj (by omega), fun _ => pU_s _ _ _ _, fun h => absurd h (by omega)⟩
    rw [pU_c _ _ _ _ (by decide)]
    exact if_pos ⟨rfl, Nat.zero_le _, hr⟩
  obtain ⟨σ', a, b, c⟩ := c_fs hm hg m 0 4096 _ (by omega) (by omega) ((hn _ _ (by decide) (by omega)).trans h11) hFS
  refine ⟨σ', a, b, FR.tr (fun k x => ?_) c⟩
  by_cases h1 : k = 55 ∨ (k = 45 ∧ x = 12)
  · exact Or.inl (by unfold Ps; omega)
  · exact Or.inr (hn k x (by omega) (by omega))
def PA (k _x : Nat) : Prop := k = 1 ∨ (46 ≤ k ∧ k ≤ 52)
def QA (k x : Nat) : Prop := (k = 84 ∧ (x = 18 ∨ x = 19 ∨ x = 21 ∨ x = 22 ∨ x = 41)) ∨ (110 ≤ k ∧ k ≤ 117)
theorem CR.mv {σ σ' : pS} {j : Nat} {r : O8} (h : CR σ j r) (e : ∀ k, 46 ≤ k → k ≤ 52 → σ' k j = σ k j) : CR σ' j r := by
  unfold CR at h ⊢
  rw [e 46 (by decide) (by decide), e 47 (by decide) (by decide), e 48 (by decide) (by decide), e 49 (by decide) (by decide), e 50 (by decide) (by decide), e 51 (by decide) (by decide), e 52 (by decide) (by decide)]
  exact h
theorem MR.mv {τ τ' : pS} {j : Nat} {r : O8} (h : MR τ j r) (e : ∀ k, 110 ≤ k → k ≤ 117 → τ' k j = τ k j) : MR τ' j r := by
  unfold MR at h ⊢
  rw [e 110 (by decide) (by decide), e 111 (by decide) (by decide), e 112 (by decide) (by decide), e 113 (by decide) (by decide), e 114 (by decide) (by decide), e 115 (by decide) (by decide), e 116 (by decide) (by decide), e 117 (by decide) (by decide)]
  exact h
def m_at (fu : Nat) (τ : pS) : Option (Int × pS) := (f_M_readsOp_84 τ).bind fun q => if q.1 = 0 then f_M_program_84_p36 fu 0 q.2 else f_M_program_84_p36 fu 1 q.2
theorem m_bad (fu : Nat) (τ : pS) : f_M_program_84_p36 (fu + 1) 0 τ = some (τ 84 21, pU τ 84 18 0) := by
  rw [f_M_program_84_p36, if_pos rfl]
  unfold f_M_program_84_p76
  rw [if_pos rfl]
theorem c_flt (σ : pS) : f_Tape_fault_1 σ = some (σ 1 4, σ) := rfl
theorem c_end {T : Nat → Int} {n p : Int} {σ : pS} (h : TP σ T n p) : f_Tape_ended_1 σ = some (if p < n then 0 else 1, σ) := by
  obtain ⟨h1, h2, h3, h4⟩ := h
  unfold f_Tape_ended_1
  rw [h1, h2]
  by_cases hp : p < n
  · rw [if_pos hp, if_pos hp]
  · rw [if_neg hp, if_neg hp]
theorem pr_ls {T : Nat → Int} {n : Int} (hT : TB T n) : ∀ (d i fu1 fu2 : Nat) (p : Int) (σ τ : pS) (rec : Nat → O8), i + d = 20 → d + 1 < fu1 → d + 2 < fu2 → TP σ T n p → TM τ T n p → τ 84 41 = (i : Int) → (∀ j, j < i → CR σ j (rec j) ∧ MR τ j (rec j) ∧ VR (rec j)) →
    (∃ f σ' τ', f < 0 ∧ f_Prog_readFrom_45_1_p2 fu1 (i : Int) σ = some (f, σ') ∧ m_at fu2 τ = some (f, τ') ∧ FR PA σ σ' ∧ FR QA τ τ' ∧ τ' 84 18 = 0) ∨
    (∃ (m : Nat) (σe τe : pS) (rec' : Nat → O8), 0 < m ∧ m ≤ 20 ∧ f_Prog_readFrom_45_1_p2 fu1 (i : Int) σ = (f_Prog_findSources_45 (pU σe 45 11 (m : Int))).bind (fun q10 => some (q10.2 45 11, q10.2)) ∧ m_at fu2 τ = f_M_program_84_p76 1 τe ∧ τe 84 41 = (m : Int) ∧ (∀ j, j < m → CR σe j (rec' j) ∧ MR τe j (rec' j) ∧ VR (rec' j)) ∧ FR PA σ σe ∧ FR QA τ τe) := by
  intro d
  induction d with
  | zero =>
    intro i fu1 fu2 p σ τ rec hdd h1 h2 hP hM h41 hrec
    obtain ⟨fu1, rfl⟩ : ∃ k, fu1 = k + 1 := ⟨fu1 - 1, by omega⟩
    obtain ⟨fu2, rfl⟩ : ∃ k, fu2 = k + 1 := ⟨fu2 - 1, by omega⟩
    obtain rfl : i = 20 := by omega
    obtain ⟨σ', a1, a2, a3⟩ := c_op20 hP
    obtain ⟨τ', b1, b2, b3⟩ := m_op20 hM h41
    have hp0 := hP.2.2.1.1
    refine Or.inl ⟨σ' 1 4, σ', pU τ' 84 18 0, ?_, ?_, ?_, a3.fr (fun x => Or.inl rfl), (b3.fr (Or.inl (by decide)) (Or.inl (by decide)) (Or.inl (by decide))).tr (FR.u (Or.inl (by decide))), pU_s _ _ _ _⟩
    · rw [a2]
      split <;> omega
    · rw [f_Prog_readFrom_45_1_p2, if_neg (by omega), show ((20 : Nat) : Int) = 20 from rfl, a1, Option.bind_some]
      dsimp only
      rw [if_pos rfl, c_flt, Option.bind_some]
    · unfold m_at
      rw [b1, Option.bind_some]
      dsimp only
      rw [if_pos rfl, m_bad, b2, a2]
  | succ d ih =>
    intro i fu1 fu2 p σ τ rec hdd h1 h2 hP hM h41 hrec
    obtain ⟨fu1, rfl⟩ : ∃ k, fu1 = k + 1 := ⟨fu1 - 1, by omega⟩
    obtain ⟨fu2, rfl⟩ : ∃ k, fu2 = k + 1 := ⟨fu2 - 1, by omega⟩
    have hi : 0 ≤ (i : Int) ∧ (i : Int) < 20 := by omega
    have hcP : ∀ k x, Pc (i : Int).toNat k x → PA k x := fun k x h => by unfold Pc at h; unfold PA; omega
    have hcQ : ∀ k x, Qc (i : Int).toNat k x → QA k x := fun k x h => by unfold Qc at h; unfold QA; omega
    have ha := c_op (i := (i : Int)) hP hT hi
    have hb := m_op (i := (i : Int)) hM hi h41
    have hp0 := hP.2.2.1.1
    cases hs : sOp T n p with
    | inr f =>
      rw [hs] at ha hb
      obtain ⟨σ', a1, a2, a3⟩ := ha
      obtain ⟨τ', b1, b2, b3⟩ := hb
      have hf := sOp_f hs
      refine Or.inl ⟨f, σ', pU τ' 84 18 0, by omega, ?_, ?_, a3.mono hcP, (b3.mono hcQ).tr (FR.u (Or.inl (by decide))), pU_s _ _ _ _⟩
      · rw [f_Prog_readFrom_45_1_p2, if_neg (by omega), a1, Option.bind_some]
        dsimp only
        rw [if_pos rfl, c_flt, Option.bind_some, a2]
      · unfold m_at
        rw [b1, Option.bind_some]
        dsimp only
        rw [if_pos rfl, m_bad, b2]
    | inl q =>
      rw [hs] at ha hb
      obtain ⟨σ1, a1, a2, a3, a4⟩ := ha
      obtain ⟨τ1, b1, b2, b3, b4, b5⟩ := hb
      rw [Int.toNat_natCast] at a3 a4 b3 b5
      rw [Int.toNat_natCast] at hcP hcQ
      obtain ⟨v1, v2⟩ := sOp_i hs
      have hrec1 : ∀ j, j < i + 1 → CR σ1 j ((fun j => if j = i then q.1 else rec j) j) ∧ MR τ1 j ((fun j => if j = i then q.1 else rec j) j) ∧ VR ((fun j => if j = i then q.1 else rec j) j) := by
        intro j hj
        dsimp only
        by_cases hji : j = i
        · rw [if_pos hji, hji]
          exact ⟨a4, b5, v1⟩
        · rw [if_neg hji]
          obtain ⟨c1, c2, c3⟩ := hrec j (by omega)
          exact ⟨c1.mv (fun k h1 h2 => a3.get (by unfold Pc; omega)), c2.mv (fun k h1 h2 => b3.get (by unfold Qc; omega)), c3⟩
      by_cases hpe : q.2 < n
      · have hc := c_tak (c := 59) a2 (by decide)
        have hm := m_tak (c := 59) b2 (by decide)
        have eA : f_Prog_readFrom_45_1_p2 (fu1 + 1) (i : Int) σ = (f_Tape_accept_1 59 σ1).bind fun q7 => if q7.1 = 0 then (f_Tape_fault_1 q7.2).bind fun q9 => some (q9.1, q9.2) else f_Prog_readFrom_45_1_p2 fu1 ((i + 1 : Nat) : Int) q7.2 := by
          rw [f_Prog_readFrom_45_1_p2, if_neg (by omega), a1, Option.bind_some]
          dsimp only
          rw [if_neg (by decide), c_end a2, if_pos hpe, Option.bind_some]
          dsimp only
          rw [if_pos rfl, pw_id (by omega) (by omega)]
          rfl
        have eB : m_at (fu2 + 1) τ = (f_M_takes_84 59 τ1).bind fun q27 => if q27.1 = 0 then f_M_program_84_p36 fu2 0 q27.2 else m_at fu2 q27.2 := by
          have g1 := b2.1
          have g2 := b2.2.1
          unfold m_at
          rw [b1, Option.bind_some]
          dsimp only
          rw [if_neg (by decide), f_M_program_84_p36, if_neg (by decide), if_neg (by omega)]
        cases ht : sTak T n 59 q.2 with
        | inr f =>
          rw [ht] at hc hm
          obtain ⟨σ2, c1, c2, c3⟩ := hc
          obtain ⟨τ2, m1, m2, m3⟩ := hm
          have hf := sTak_f ht
          obtain ⟨fu3, rfl⟩ : ∃ k, fu2 = k + 1 := ⟨fu2 - 1, by omega⟩
          refine Or.inl ⟨f, σ2, pU τ2 84 18 0, by omega, ?_, ?_, (a3.mono hcP).tr (c3.fr (fun x => Or.inl rfl)), ((b3.mono hcQ).tr (m3.fr (Or.inl (by decide)) (Or.inl (by decide)) (Or.inl (by decide)))).tr (FR.u (Or.inl (by decide))), pU_s _ _ _ _⟩
          · rw [eA, c1, Option.bind_some]
            dsimp only
            rw [if_pos rfl, c_flt, Option.bind_some, c2]
          · rw [eB, m1, Option.bind_some]
            dsimp only
            rw [if_pos rfl, m_bad, m2]
        | inl p1 =>
          rw [ht] at hc hm
          obtain ⟨σ2, c1, c2, c3⟩ := hc
          obtain ⟨τ2, m1, m2, m3⟩ := hm
          have hFa : FR PA σ σ2 := (a3.mono hcP).tr (c3.fr (fun x => Or.inl rfl))
          have hFb : FR QA τ τ2 := (b3.mono hcQ).tr (m3.fr (Or.inl (by decide)) (Or.inl (by decide)) (Or.inl (by decide)))
          have hI := ih (i + 1) fu1 fu2 p1 σ2 τ2 (fun j => if j = i then q.1 else rec j) (by omega) (by omega) (by omega) c2 m2 ((m3.2 41 (by decide) (by decide) (by decide)).trans (b4.trans (by omega))) (fun j hj => by
            obtain ⟨g1, g2, g3⟩ := hrec1 j hj
            exact ⟨g1.mv (fun k h1 h2 => c3 _ _ (by omega)), g2.mv (fun k h1 h2 => m3.1 _ _ (by omega)), g3⟩)
          have e1 : f_Prog_readFrom_45_1_p2 (fu1 + 1) (i : Int) σ = f_Prog_readFrom_45_1_p2 fu1 ((i + 1 : Nat) : Int) σ2 := by
            rw [eA, c1, Option.bind_some]
            dsimp only
            rw [if_neg (by decide)]
          have e2 : m_at (fu2 + 1) τ = m_at fu2 τ2 := by
            rw [eB, m1, Option.bind_some]
            dsimp only
            rw [if_neg (by decide)]
          rw [e1, e2]
          rcases hI with ⟨f, σ', τ', k1, k2, k3, k4, k5, k6⟩ | ⟨m, σe, τe, rec', k0, k1, k2, k3, k4, k5, k6, k7⟩
          · exact Or.inl ⟨f, σ', τ', k1, k2, k3, hFa.tr k4, hFb.tr k5, k6⟩
          · exact Or.inr ⟨m, σe, τe, rec', k0, k1, k2, k3, k4, k5, hFa.tr k6, hFb.tr k7⟩
      · refine Or.inr ⟨i + 1, σ1, τ1, (fun j => if j = i then q.1 else rec j), by omega, by omega, ?_, ?_, b4.trans (by omega), hrec1, a3.mono hcP, b3.mono hcQ⟩
        · rw [f_Prog_readFrom_45_1_p2, if_neg (by omega), a1, Option.bind_some]
          dsimp only
          rw [if_neg (by decide), c_end a2, if_neg hpe, Option.bind_some]
          dsimp only
          rw [if_neg (by decide), pw_id (by omega) (by omega)]
          rfl
        · have g1 := b2.1
          have g2 := b2.2.1
          unfold m_at
          rw [b1, Option.bind_some]
          dsimp only
          rw [if_neg (by decide), f_M_program_84_p36, if_neg (by decide), if_pos (by omega)]
def CPy (τ : pS) (j : Nat) : Prop := τ 88 j = τ 110 j ∧ τ 89 j = τ 111 j ∧ τ 90 j = τ 112 j ∧ τ 91 j = τ 113 j ∧ τ 92 j = τ 114 j ∧ τ 93 j = τ 115 j ∧ τ 94 j = τ 116 j ∧ τ 95 j = τ 117 j ∧ τ 87 j = -1
def Q100 (k x : Nat) : Prop := (87 ≤ k ∧ k ≤ 95) ∨ k = 145 ∨ (k = 84 ∧ (x = 3 ∨ x = 75 ∨ x = 5))
theorem m_100 {m : Nat} (hm : m ≤ 20) : ∀ (d i fu : Nat) (τ : pS), i + d = m → d < fu → τ 84 2 = (m : Int) → (∀ j, j < i → CPy τ j) → ∃ τ', f_M_program_84_p100 fu (i : Int) τ = some ((m : Int), τ') ∧ (∀ j, j < m → CPy τ' j) ∧ FR Q100 τ τ' ∧ τ' 84 3 = 0 ∧ τ' 84 75 = 0 ∧ τ' 145 0 = 0 ∧ τ' 145 1 = 0 ∧ τ' 84 5 = pw (τ 84 5 + 1)
  | 0, i, fu, τ, hd1, hf, h2, hc => by
    obtain ⟨fu, rfl⟩ : ∃ k, fu = k + 1 := ⟨fu - 1, by omega⟩
    obtain rfl : i = m := by omega
    refine ⟨pU (pU (pU (pU (pU τ 84 3 0) 84 75 0) 145 0 0) 145 1 0) 84 5 (pw (τ 84 5 + 1)), ?_, fun j hj => ?_, ?_, ?_, ?_, ?_, ?_, pU_s _ _ _ _⟩
    · rw [f_M_program_84_p100, if_pos (by omega), h2]
    · have h := hc j hj
      unfold CPy at h ⊢
      have e : ∀ k x, k ≠ 84 → k ≠ 145 → pU (pU (pU (pU (pU τ 84 3 0) 84 75 0) 145 0 0) 145 1 0) 84 5 (pw (τ 84 5 + 1)) k x = τ k x := fun k x h1 h2 => (pU_c _ _ _ _ h1).trans ((pU_c _ _ _ _ h2).trans ((pU_c _ _ _ _ h2).trans ((pU_c _ _ _ _ h1).trans (pU_c _ _ _ _ h1))))
      simp only [e _ _ (show 88 ≠ 84 by decide) (by decide), e _ _ (show 89 ≠ 84 by decide) (by decide), e _ _ (show 90 ≠ 84 by decide) (by decide), e _ _ (show 91 ≠ 84 by decide) (by decide), e _ _ (show 92 ≠ 84 by decide) (by decide), e _ _ (show 93 ≠ 84 by decide) (by decide), e _ _ (show 94 ≠ 84 by decide) (by decide), e _ _ (show 95 ≠ 84 by decide) (by decide), e _ _ (show 87 ≠ 84 by decide) (by decide), e _ _ (show 110 ≠ 84 by decide) (by decide), e _ _ (show 111 ≠ 84 by decide) (by decide), e _ _ (show 112 ≠ 84 by decide) (by decide), e _ _ (show 113 ≠ 84 by decide) (by decide), e _ _ (show 114 ≠ 84 by decide) (by decide), e _ _ (show 115 ≠ 84 by decide) (by decide), e _ _ (show 116 ≠ 84 by decide) (by decide), e _ _ (show 117 ≠ 84 by decide) (by decide)]
      exact h
    · exact ((((FR.u (Or.inr (Or.inr ⟨rfl, by decide⟩))).tr (FR.u (Or.inr (Or.inr ⟨rfl, by decide⟩)))).tr (FR.u (Or.inr (Or.inl rfl)))).tr (FR.u (Or.inr (Or.inl rfl)))).tr (FR.u (Or.inr (Or.inr ⟨rfl, by decide⟩)))
    · simp [pU]
    · simp [pU]
    · simp [pU]
    · simp [pU]
  | d + 1, i, fu, τ, hd1, hf, h2, hc => by
    obtain ⟨fu, rfl⟩ : ∃ k, fu = k + 1 := ⟨fu - 1, by omega⟩
    have hi : 0 ≤ (i : Int) ∧ (i : Int) < 20 := by omega
    generalize hτ1 : (pU (pU (pU (pU (pU (pU (pU (pU (pU τ 88 i (τ 110 i)) 89 i (τ 111 i)) 90 i (τ 112 i)) 91 i (τ 113 i)) 92 i (τ 114 i)) 93 i (τ 115 i)) 94 i (τ 116 i)) 95 i (τ 117 i)) 87 i (-1)) = τ1
    have hn : ∀ k x, ¬ (87 ≤ k ∧ k ≤ 95 ∧ x = i) → τ1 k x = τ k x := by
      intro k x h
      rw [← hτ1]
      unfold pU
      rw [if_neg (by omega), if_neg (by omega), if_neg (by omega), if_neg (by omega), if_neg (by omega), if_neg (by omega), if_neg (by omega), if_neg (by omega), if_neg (by omega)]
    have st : f_M_program_84_p100 (fu + 1) (i : Int) τ = f_M_program_84_p100 fu ((i + 1 : Nat) : Int) τ1 := by
      rw [f_M_program_84_p100, if_neg (by omega)]
      simp only [if_pos hi, Int.toNat_natCast]
      rw [hτ1, pw_id (by omega) (by omega)]
      rfl
    have hc1 : ∀ j, j < i + 1 → CPy τ1 j := by
      intro j hj
      by_cases hji : j = i
      · subst hji
        unfold CPy
        rw [← hτ1]
        simp [pU]
      · have h := hc j (by omega)
        have e : ∀ k, τ1 k j = τ k j := fun k => hn k j (by omega)
        unfold CPy at h ⊢
        simp only [e]
        exact h
    obtain ⟨τ', a1, a2, a3, a4, a5, a6, a7, a8⟩ := m_100 hm d (i + 1) fu τ1 (by omega) (by omega) ((hn _ _ (by omega)).trans h2) hc1
    rw [st]
    refine ⟨τ', a1, a2, FR.tr (fun k x => ?_) a3, a4, a5, a6, a7, by rw [a8, hn _ _ (by omega)]⟩
    by_cases hk : 87 ≤ k ∧ k ≤ 95 ∧ x = i
    · exact Or.inl (Or.inl ⟨hk.1, hk.2.1⟩)
    · exact Or.inr (hn k x hk)
/-- the tapes are alike -/
def TR (σ τ : pS) : Prop := σ 1 1 = τ 84 18 ∧ (0 ≤ σ 1 1 ∧ σ 1 1 ≤ 260) ∧ ∀ i : Nat, (i : Int) < σ 1 1 → σ 2 i = pAnd (τ 96 i) 255 ∧ 0 ≤ σ 2 i ∧ σ 2 i ≤ 255
def CRp (σ : pS) (i : Nat) (r : O8) : Prop := σ 5 i = r.1 ∧ σ 6 i = r.2.1 ∧ σ 7 i = r.2.2.1 ∧ ((r.1 = 3 ∧ σ 8 i = -1 ∧ σ 9 i = r.2.2.2.1) ∨ (r.1 ≠ 3 ∧ σ 8 i = r.2.2.2.1 ∧ σ 9 i = r.2.2.2.2.1)) ∧ ((r.1 = 1 ∧ σ 10 i = r.2.2.2.2.2.1) ∨ (r.1 ≠ 1 ∧ σ 10 i = r.2.2.2.2.2.2.1)) ∧ σ 11 i = r.2.2.2.2.2.2.2
def MRp (τ : pS) (i : Nat) (r : O8) : Prop := τ 88 i = r.1 ∧ τ 89 i = r.2.1 ∧ τ 90 i = r.2.2.2.1 ∧ (r.1 = 1 → τ 91 i = r.2.2.2.2.1 ∧ τ 92 i = r.2.2.2.2.2.1) ∧ (2 ≤ r.1 → τ 93 i = r.2.2.1 ∧ τ 94 i = r.2.2.2.2.2.2.1) ∧ (r.1 ≠ 1 → τ 95 i = r.2.2.2.2.2.2.2)
def DPT (g F S D : Nat → Int) (m : Nat) (dp : Int) : Prop := (∀ j, j < m → (1 ≤ D j ∧ D j ≤ (j : Int) + 1) ∧ D j = 1 + pMax (dz D (src g j (F j))) (dz D (src g j (S j)))) ∧ (0 ≤ dp ∧ (∀ j, j < m → D j ≤ dp) ∧ (m = 0 → dp = 0) ∧ (0 < m → ∃ j, j < m ∧ dp = D j))
/-- the programs are alike -/
def PRG (σ τ : pS) : Prop := ∃ (m : Nat) (rec : Nat → O8) (D : Nat → Int), m ≤ 20 ∧ σ 4 11 = (m : Int) ∧ τ 84 2 = (m : Int) ∧ (∀ j, j < m → CRp σ j (rec j) ∧ MRp τ j (rec j) ∧ VR (rec j)) ∧ (∀ j, j < m → σ 12 j = src (σ 8) j (σ 9 j) ∧ σ 13 j = src (σ 8) j (σ 10 j)) ∧ DPT (σ 8) (σ 9) (σ 10) D m (σ 4 12)
theorem gv_cg {g g' : Nat → Int} {r : Int} : ∀ (i : Nat), (∀ j, j < i → g j = g' j) → gv g i r = gv g' i r
  | 0, _ => rfl
  | i + 1, h => by
    unfold gv
    rw [h i (by omega), gv_cg i (fun j hj => h j (by omega))]
theorem src_cg {g g' : Nat → Int} {r : Int} {i : Nat} (h : ∀ j, j < i → g j = g' j) : src g i r = src g' i r := by
  unfold src
  rw [gv_cg i h]
theorem PRG.mv {σ σ' τ τ' : pS} (h : PRG σ τ) (h1 : σ' 4 11 = σ 4 11) (h2 : σ' 4 12 = σ 4 12) (h3 : ∀ k x, 5 ≤ k → k ≤ 13 → σ' k x = σ k x) (h4 : τ' 84 2 = τ 84 2) (h5 : ∀ k x, 88 ≤ k → k ≤ 95 → τ' k x = τ k x) : PRG σ' τ' := by
  obtain ⟨m, rec, D, a1, a2, a3, a4, a5, a6⟩ := h
  have e8 : σ' 8 = σ 8 := funext (fun x => h3 _ _ (by decide) (by decide))
  have e9 : σ' 9 = σ 9 := funext (fun x => h3 _ _ (by decide) (by decide))
  have e10 : σ' 10 = σ 10 := funext (fun x => h3 _ _ (by decide) (by decide))
  refine ⟨m, rec, D, a1, h1.trans a2, h4.trans a3, fun j hj => ?_, fun j hj => ?_, ?_⟩
  · obtain ⟨b1, b2, b3⟩ := a4 j hj
    unfold CRp at b1 ⊢
    unfold MRp at b2 ⊢
    simp only [h3 5 _ (by decide) (by decide), h3 6 _ (by decide) (by decide), h3 7 _ (by decide) (by decide), h3 8 _ (by decide) (by decide), h3 9 _ (by decide) (by decide), h3 10 _ (by decide) (by decide), h3 11 _ (by decide) (by decide), h5 88 _ (by decide) (by decide), h5 89 _ (by decide) (by decide), h5 90 _ (by decide) (by decide), h5 91 _ (by decide) (by decide), h5 92 _ (by decide) (by decide), h5 93 _ (by decide) (by decide), h5 94 _ (by decide) (by decide), h5 95 _ (by decide) (by decide)]
    exact ⟨b1, b2, b3⟩
  · rw [h3 12 _ (by decide) (by decide), h3 13 _ (by decide) (by decide), e8, e9, e10]
    exact a5 j hj
  · rw [e8, e9, e10, h2]
    exact a6
def PFa (k _x : Nat) : Prop := k = 1 ∨ (45 ≤ k ∧ k ≤ 56)
def QFa (k x : Nat) : Prop := (k = 84 ∧ ((18 ≤ x ∧ x ≤ 26) ∨ x = 41)) ∨ (110 ≤ k ∧ k ≤ 117)
def PTl (k x : Nat) : Prop := k = 1 ∨ (4 ≤ k ∧ k ≤ 13) ∨ (45 ≤ k ∧ k ≤ 56) ∨ (k = 24 ∧ x = 3) ∨ k = 27 ∨ k = 83 ∨ (k = 0 ∧ (x = 8 ∨ x = 10))
def QTl (k x : Nat) : Prop := (k = 84 ∧ (x = 2 ∨ x = 3 ∨ x = 5 ∨ (18 ≤ x ∧ x ≤ 26) ∨ x = 41 ∨ x = 75)) ∨ (87 ≤ k ∧ k ≤ 95) ∨ (110 ≤ k ∧ k ≤ 117) ∨ k = 145
/-- a program is told: what is as at the beginning then -/
def TOLD (σ τ σ' τ' : pS) : Prop := FR PTl σ σ' ∧ FR QTl τ τ' ∧ (∀ j, j < 20 → σ' 27 j = -1) ∧ σ' 24 3 = 0 ∧ σ' 83 0 = 0 ∧ σ' 83 1 = 0 ∧ σ' 0 8 = 0 ∧ σ' 0 10 = 1 ∧ (∀ j : Nat, (j : Int) < σ' 4 11 → τ' 87 j = -1) ∧ τ' 84 3 = 0 ∧ τ' 84 75 = 0 ∧ τ' 145 0 = 0 ∧ τ' 145 1 = 0 ∧ τ' 84 5 = pw (τ 84 5 + 1)
theorem pKp_d {σ : pS} {a b n x : Nat} (h : x < n) : pKp σ a b n b x = σ a x := if_pos ⟨rfl, h⟩
theorem pKp_o {σ : pS} {a b n k x : Nat} (h : k ≠ b) : pKp σ a b n k x = σ k x := if_neg (fun e => h e.1)
theorem FR.kp {P : Nat → Nat → Prop} {σ : pS} {a b n : Nat} (h : ∀ x, x < n → P b x) : FR P σ (pKp σ a b n) := fun k x => by
  by_cases z : k = b ∧ x < n
  · rw [z.1]; exact Or.inl (h x z.2)
  · exact Or.inr (if_neg z)
theorem FR.fl {P : Nat → Nat → Prop} {σ : pS} {j n i : Nat} {v : Int} (h : ∀ x, x < n → P j x) : FR P σ (pFl σ j n i v) := fun k x => by
  by_cases z : k = j ∧ i ≤ x ∧ x < n
  · rw [z.1]; exact Or.inl (h x z.2.2)
  · exact Or.inr (if_neg z)
theorem prog_ls {σ τ : pS} {a : Int} (hTR : TR σ τ) (hPR : PRG σ τ) : ∃ v σ' τ', f_X_program_0 a σ = some (v, σ') ∧ f_M_program_84 a τ = some (v, τ') ∧ TR σ' τ' ∧ PRG σ' τ' ∧ ((FR PFa σ σ' ∧ FR QFa τ τ') ∨ TOLD σ τ σ' τ') := by
  obtain ⟨t1, t2, t3⟩ := hTR
  by_cases hb : (1 ≤ a ∧ a ≤ 240) ∧ a ≤ σ 1 1
  · obtain ⟨hb1, hb2⟩ := hb
    have hTB : TB (fun i => σ 2 i) a := fun i hi => (t3 i (by omega)).2
    -- the starts
    generalize hσ0 : pU (pU (pU σ 1 2 a) 1 3 0) 1 4 0 = σ0
    generalize hτ0 : pU (pU (pU (pU (pU τ 84 19 0) 84 20 a) 84 24 0) 84 26 0) 84 41 0 = τ0
    have hP0 : TP σ0 (fun i => σ 2 i) a 0 := by
      rw [← hσ0]
      refine ⟨by simp [pU], by simp [pU], ⟨by omega, by omega, by omega⟩, fun i hi => by simp [pU]⟩
    have hM0 : TM τ0 (fun i => σ 2 i) a 0 := by
      rw [← hτ0]
      refine ⟨by simp [pU], by simp [pU], ⟨by omega, by omega, by omega⟩, fun i hi => ?_⟩
      rw [show pU (pU (pU (pU (pU τ 84 19 0) 84 20 a) 84 24 0) 84 26 0) 84 41 0 96 i = τ 96 i by simp [pU]]
      exact (t3 i (by omega)).1.symm
    have h41 : τ0 84 41 = ((0 : Nat) : Int) := by rw [← hτ0]; simp [pU]
    have n0 : ∀ k x, k ≠ 1 → σ0 k x = σ k x := fun k x h => by rw [← hσ0]; exact (pU_c _ _ _ _ h).trans ((pU_c _ _ _ _ h).trans (pU_c _ _ _ _ h))
    have m0 : ∀ k x, ¬ (k = 84 ∧ (x = 19 ∨ x = 20 ∨ x = 24 ∨ x = 26 ∨ x = 41)) → τ0 k x = τ k x := fun k x h => by
      rw [← hτ0]
      unfold pU
      rw [if_neg (by omega), if_neg (by omega), if_neg (by omega), if_neg (by omega), if_neg (by omega)]
    have eX : f_X_program_0 a σ = (f_Prog_readFrom_45_1 σ0).bind fun q5 => if q5.1 < 0 then f_X_program_0_p101 q5.1 q5.2 else (f_Prog_copyFrom_4_45 q5.2).bind fun q8 => (f_State_dropSets_24 q8.2).bind fun q9 => (f_Rows_clear_82 (pU q9.2 24 3 0)).bind fun q10 => f_X_program_0_p101 q5.1 (pU (pU q10.2 0 8 0) 0 10 1) := by
      unfold f_X_program_0
      rw [if_neg (by omega), if_neg (by omega), if_pos hb2]
      unfold f_Tape_beginText_1
      rw [Option.bind_some]
      dsimp only
      rw [show pMin a (σ 1 1) = a by unfold pMin; rw [if_neg (by omega)], hσ0]
    have eM : f_M_program_84 a τ = m_at 4096 τ0 := by
      unfold f_M_program_84
      rw [m_in, if_pos hb1, Option.bind_some]
      dsimp only
      rw [if_neg (by decide), if_pos (by omega)]
      unfold f_M_beginsText_84
      rw [Option.bind_some]
      dsimp only
      rw [hτ0]
      unfold m_at
      have h := m_op hM0 (by omega) h41
      cases hs : sOp (fun i => σ 2 i) a 0 with
      | inr f =>
        rw [hs] at h
        obtain ⟨τ', b1, -⟩ := h
        rw [b1, Option.bind_some, Option.bind_some]
        rfl
      | inl q =>
        rw [hs] at h
        obtain ⟨τ', b1, -⟩ := h
        rw [b1, Option.bind_some, Option.bind_some]
        rfl
    have x0 : FR PFa σ σ0 := by
      rw [← hσ0]
      exact ((FR.u (Or.inl rfl)).tr (FR.u (Or.inl rfl))).tr (FR.u (Or.inl rfl))
    have y0 : FR QFa τ τ0 := by
      rw [← hτ0]
      exact ((((FR.u (by unfold QFa; omega)).tr (FR.u (by unfold QFa; omega))).tr (FR.u (by unfold QFa; omega))).tr (FR.u (by unfold QFa; omega))).tr (FR.u (by unfold QFa; omega))
    have pA : ∀ k x, PA k x → PFa k x := fun k x h => by unfold PA at h; unfold PFa; omega
    have qA : ∀ k x, QA k x → QFa k x := fun k x h => by unfold QA at h; unfold QFa; omega
    have pB : ∀ k x, PFa k x → PTl k x := fun k x h => by unfold PFa at h; unfold PTl; omega
    have qB : ∀ k x, QFa k x → QTl k x := fun k x h => by unfold QFa at h; unfold QTl; omega
    rw [eX, eM]
    unfold f_Prog_readFrom_45_1
    rcases pr_ls hTB 20 0 4096 4096 0 σ0 τ0 (fun _ => (0, 0, 0, 0, 0, 0, 0, 0)) (by omega) (by omega) (by omega) hP0 hM0 h41 (fun j hj => absurd hj (by omega)) with ⟨f, σ', τ', k1, k2, k3, k4, k5, k6⟩ | ⟨m, σe, τe, rec, k0, k1, k2, k3, k4, k5, k6, k7⟩
    · rw [show ((0 : Nat) : Int) = 0 from rfl] at k2
      rw [k2, k3, Option.bind_some]
      dsimp only
      rw [if_pos k1]
      refine ⟨f, pU σ' 1 1 0, τ', rfl, rfl, ⟨by rw [pU_s, k6], by rw [pU_s]; omega, fun i hi => by rw [pU_s] at hi; omega⟩, ?_, Or.inl ⟨(x0.tr (k4.mono pA)).tr (FR.u (Or.inl rfl)), y0.tr (k5.mono qA)⟩⟩
      have c : ∀ k x, k ≠ 1 → k < 46 → pU σ' 1 1 0 k x = σ k x := fun k x h1 h2 => (pU_c _ _ _ _ h1).trans ((k4.get (by unfold PA; omega)).trans (n0 k x h1))
      have d : ∀ k x, ¬ QA k x → k ≠ 84 ∨ x = 2 → τ' k x = τ k x := fun k x h1 h2 => (k5.get h1).trans (m0 k x (by omega))
      exact hPR.mv (c _ _ (by decide) (by decide)) (c _ _ (by decide) (by decide)) (fun k x h1 h2 => c _ _ (by omega) (by omega)) (d _ _ (by unfold QA; omega) (by omega)) (fun k x h1 h2 => d _ _ (by unfold QA; omega) (by omega))
    · rw [show ((0 : Nat) : Int) = 0 from rfl] at k2
      have hgv : ∀ j, j < m → -1 ≤ pU σe 45 11 (m : Int) 49 j ∧ pU σe 45 11 (m : Int) 49 j ≤ 7 := by
        intro j hj
        rw [pU_c _ _ _ _ (by decide)]
        obtain ⟨c1, -, c3⟩ := k5 j hj
        obtain ⟨-, -, -, c4, -⟩ := c1
        obtain ⟨-, v2, -⟩ := c3
        rcases c4 with ⟨-, h, -⟩ | ⟨-, h, -⟩ <;> omega
      obtain ⟨σf, f1, f2, f3⟩ := c_find (σ := pU σe 45 11 (m : Int)) k1 hgv (pU_s _ _ _ _)
      have f11 : σf 45 11 = (m : Int) := (f3.get (by unfold Ps; omega)).trans (pU_s _ _ _ _)
      have fe : ∀ k x, 46 ≤ k → k ≤ 52 → σf k x = σe k x := fun k x h1 h2 => (f3.get (by unfold Ps; omega)).trans (pU_c _ _ _ _ (by omega))
      rw [k2, f1, Option.bind_some]
      dsimp only
      rw [Option.bind_some]
      dsimp only
      rw [f11, if_neg (by omega)]
      -- the class's end
      unfold f_Prog_copyFrom_4_45
      rw [Option.bind_some]
      dsimp only
      unfold f_State_dropSets_24
      rw [fill_27, Option.bind_some, Option.bind_some]
      dsimp only
      unfold f_Rows_clear_82
      rw [fill_83, Option.bind_some, Option.bind_some]
      dsimp only
      unfold f_X_program_0_p101 f_Tape_clear_1
      rw [Option.bind_some]
      dsimp only
      -- the reference's end
      rw [k3]
      unfold f_M_program_84_p76
      rw [if_neg (by decide), k4]
      obtain ⟨τ', a1, a2, a3, a4, a5, a6, a7, a8⟩ := m_100 (m := m) k1 m 0 4096 (pU (pU τe 84 18 0) 84 2 (m : Int)) (by omega) (by omega) (pU_s _ _ _ _) (fun j hj => absurd hj (by omega))
      rw [show ((0 : Nat) : Int) = 0 from rfl] at a1
      rw [a1]
      generalize hσ' : pU (pU (pU (pFl (pU (pFl (pU (pU (pKp (pKp (pKp (pKp (pKp (pKp (pKp (pKp (pKp σf 46 5 20) 47 6 20) 48 7 20) 49 8 20) 50 9 20) 51 10 20) 52 11 20) 53 12 20) 54 13 20) 4 11 (σf 45 11)) 4 12 (σf 45 12)) 27 20 0 (-1)) 24 3 0) 83 2 0 0) 0 8 0) 0 10 1) 1 1 0 = σ'
      refine ⟨(m : Int), σ', τ', rfl, rfl, ?_, ?_, Or.inr ⟨?_, ?_, fun j hj => ?_, ?_, ?_, ?_, ?_, ?_, fun j hj => ?_, a4, a5, a6, a7, ?_⟩⟩
      · have e1 : σ' 1 1 = 0 := by rw [← hσ']; exact pU_s _ _ _ _
        have e2 : τ' 84 18 = 0 := (a3.get (by unfold Q100; omega)).trans ((pU_i _ _ _ _ (by decide)).trans (pU_s _ _ _ _))
        exact ⟨by rw [e1, e2], by rw [e1]; omega, fun i hi => by rw [e1] at hi; omega⟩
      · have q : ∀ j, j < 20 → σ' 5 j = σe 46 j ∧ σ' 6 j = σe 47 j ∧ σ' 7 j = σe 48 j ∧ σ' 8 j = σe 49 j ∧ σ' 9 j = σe 50 j ∧ σ' 10 j = σe 51 j ∧ σ' 11 j = σe 52 j ∧ σ' 12 j = σf 53 j ∧ σ' 13 j = σf 54 j := by
          intro j hj
          rw [← hσ', ← fe 46 j (by decide) (by decide), ← fe 47 j (by decide) (by decide), ← fe 48 j (by decide) (by decide), ← fe 49 j (by decide) (by decide), ← fe 50 j (by decide) (by decide), ← fe 51 j (by decide) (by decide), ← fe 52 j (by decide) (by decide)]
          refine ⟨?_, ?_, ?_, ?_, ?_, ?_, ?_, ?_, ?_⟩ <;> simp [pU, pFl, pKp, hj]
        have q11 : σ' 4 11 = (m : Int) := by rw [← hσ', ← f11]; simp [pU, pFl]
        have q12 : σ' 4 12 = σf 45 12 := by rw [← hσ']; simp [pU, pFl]
        have t84 : τ' 84 2 = (m : Int) := (a3.get (by unfold Q100; omega)).trans (pU_s _ _ _ _)
        have tn : ∀ k x, 110 ≤ k → k ≤ 117 → τ' k x = τe k x := fun k x h1 h2 => (a3.get (by unfold Q100; omega)).trans ((pU_c _ _ _ _ (by omega)).trans (pU_c _ _ _ _ (by omega)))
        obtain ⟨g1, g2, g3, g4⟩ := f2
        have eg : ∀ (j : Nat) (r : Int), j < m → src (σ' 8) j r = src (pU σe 45 11 (m : Int) 49) j r := fun j r hj => src_cg (fun x hx => ((q x (by omega)).2.2.2.1).trans (pU_c _ _ _ _ (by decide)).symm)
        refine ⟨m, rec, σf 56, k1, q11, t84, fun j hj => ?_, fun j hj => ?_, fun j hj => ?_, ?_⟩
        · obtain ⟨c1, c2, c3⟩ := k5 j hj
          obtain ⟨b1, b2, b3, b4, b5, b6, b7, -, -⟩ := q j (by omega)
          have hcp := a2 j hj
          unfold CPy at hcp
          refine ⟨?_, ?_, c3⟩
          · unfold CR at c1
            unfold CRp
            simp only [b1, b2, b3, b4, b5, b6, b7]
            exact c1
          · unfold MR at c2
            unfold MRp
            obtain ⟨d1, d2, d3, d4, d5, d6, d7, d8, -⟩ := hcp
            simp only [d1, d2, d3, d4, d5, d6, d7, d8, tn _ j (show 110 ≤ 110 by decide) (by decide), tn _ j (show 110 ≤ 111 by decide) (by decide), tn _ j (show 110 ≤ 112 by decide) (by decide), tn _ j (show 110 ≤ 113 by decide) (by decide), tn _ j (show 110 ≤ 114 by decide) (by decide), tn _ j (show 110 ≤ 115 by decide) (by decide), tn _ j (show 110 ≤ 116 by decide) (by decide), tn _ j (show 110 ≤ 117 by decide) (by decide)]
            exact c2
        · obtain ⟨s1, s2, -, -⟩ := g3 j hj
          obtain ⟨-, -, -, -, b5, b6, -, b8, b9⟩ := q j (by omega)
          rw [b8, b9, b5, b6, eg j _ hj, eg j _ hj]
          exact ⟨by rw [s1, pU_c _ _ _ _ (show 50 ≠ 45 by decide)], by rw [s2, pU_c _ _ _ _ (show 51 ≠ 45 by decide)]⟩
        · obtain ⟨-, -, s3, s4⟩ := g3 j hj
          obtain ⟨-, -, -, -, b5, b6, -, -, -⟩ := q j (by omega)
          rw [b5, b6, eg j _ hj, eg j _ hj]
          rw [pU_c _ _ _ _ (show 50 ≠ 45 by decide), pU_c _ _ _ _ (show 51 ≠ 45 by decide)] at s4
          exact ⟨s3, s4⟩
        · rw [q12]
          exact g4
      · have z1 : FR PTl σ (pU σe 45 11 (m : Int)) := ((x0.mono pB).tr (k6.mono (fun k x h => pB k x (pA k x h)))).tr (FR.u (by unfold PTl; omega))
        have z2 : FR PTl (pU σe 45 11 (m : Int)) σf := f3.mono (fun k x h => by unfold Ps at h; unfold PTl; omega)
        refine (z1.tr z2).tr ?_
        rw [← hσ']
        have kp : ∀ (s : pS) (a b : Nat), 5 ≤ b → b ≤ 13 → FR PTl s (pKp s a b 20) := fun s a b h1 h2 => FR.kp (fun x _ => by unfold PTl; omega)
        refine FR.tr ?_ (FR.u (by unfold PTl; omega))
        refine FR.tr ?_ (FR.u (by unfold PTl; omega))
        refine FR.tr ?_ (FR.u (by unfold PTl; omega))
        refine FR.tr ?_ (FR.fl (fun x _ => by unfold PTl; omega))
        refine FR.tr ?_ (FR.u (by unfold PTl; omega))
        refine FR.tr ?_ (FR.fl (fun x _ => by unfold PTl; omega))
        refine FR.tr ?_ (FR.u (by unfold PTl; omega))
        refine FR.tr ?_ (FR.u (by unfold PTl; omega))
        refine FR.tr ?_ (kp _ _ _ (by decide) (by decide))
        refine FR.tr ?_ (kp _ _ _ (by decide) (by decide))
        refine FR.tr ?_ (kp _ _ _ (by decide) (by decide))
        refine FR.tr ?_ (kp _ _ _ (by decide) (by decide))
        refine FR.tr ?_ (kp _ _ _ (by decide) (by decide))
        refine FR.tr ?_ (kp _ _ _ (by decide) (by decide))
        refine FR.tr ?_ (kp _ _ _ (by decide) (by decide))
        refine FR.tr ?_ (kp _ _ _ (by decide) (by decide))
        exact kp _ _ _ (by decide) (by decide)
      · have z1 : FR QTl τ τe := (y0.mono qB).tr (k7.mono (fun k x h => qB k x (qA k x h)))
        refine (z1.tr ?_).tr (a3.mono (fun k x h => by unfold Q100 at h; unfold QTl; omega))
        exact (FR.u (by unfold QTl; omega)).tr (FR.u (by unfold QTl; omega))
      · rw [← hσ']
        simp [pU, pFl, hj]
      · rw [← hσ']
        simp [pU, pFl]
      · rw [← hσ']
        simp [pU, pFl]
      · rw [← hσ']
        simp [pU, pFl]
      · rw [← hσ']
        simp [pU, pFl]
      · rw [← hσ']
        simp [pU, pFl]
      · have q11 : σ' 4 11 = (m : Int) := by rw [← hσ', ← f11]; simp [pU, pFl]
        rw [q11] at hj
        have h := a2 j (by omega)
        unfold CPy at h
        exact h.2.2.2.2.2.2.2.2
      · rw [a8, pU_i _ _ _ _ (by decide), pU_i _ _ _ _ (by decide), k7.get (by unfold QA; omega), m0 _ _ (by omega)]
  · -- refused
    refine ⟨-1, σ, τ, ?_, ?_, ⟨t1, t2, t3⟩, hPR, Or.inl ⟨FR.rf _ _, FR.rf _ _⟩⟩
    · unfold f_X_program_0
      by_cases h1 : a < 1
      · rw [if_pos h1]
      · rw [if_neg h1]
        by_cases h2 : 240 < a
        · rw [if_pos h2]
        · rw [if_neg h2, if_neg (by omega)]
    · unfold f_M_program_84
      rw [m_in, Option.bind_some]
      by_cases h1 : 1 ≤ a ∧ a ≤ 240
      · rw [if_pos h1]
        dsimp only
        rw [if_neg (by decide), if_neg (by omega)]
      · rw [if_neg h1]
        dsimp only
        rw [if_pos rfl]
theorem px_dr_0 (x y : Int) : px_dr 0 x y = pDiv x y := rfl
theorem px_dr_1 (x y : Int) : px_dr 1 x y = pRem x y := rfl
