theorem pw_id {z : Int} (h1 : -2147483648 ≤ z) (h2 : z < 2147483648) : pw z = z := Int.bmod_eq_of_le (by omega) (by omega)
theorem pU_s (σ : pS) (j i : Nat) (v : Int) : pU σ j i v j i = v := if_pos ⟨rfl, rfl⟩
theorem pU_c (σ : pS) {j k : Nat} (i : Nat) (v : Int) (x : Nat) (h : k ≠ j) : pU σ j i v k x = σ k x := if_neg (fun e => h e.1)
theorem pU_i (σ : pS) (j : Nat) {i x : Nat} (v : Int) (k : Nat) (h : x ≠ i) : pU σ j i v k x = σ k x := if_neg (fun e => h e.2)
/-- the text's signs -/
def hd (T : Nat → Int) (n p : Int) : Int := if p < n then T p.toNat else -1
def TB (T : Nat → Int) (n : Int) : Prop := ∀ i : Nat, (i : Int) < n → 0 ≤ T i ∧ T i ≤ 255
def TP (σ : pS) (T : Nat → Int) (n p : Int) : Prop := σ 1 3 = p ∧ σ 1 2 = n ∧ (0 ≤ p ∧ p ≤ n ∧ n ≤ 240) ∧ ∀ i : Nat, (i : Int) < n → σ 2 i = T i
def TM (τ : pS) (T : Nat → Int) (n p : Int) : Prop := τ 84 19 = p ∧ τ 84 20 = n ∧ (0 ≤ p ∧ p ≤ n ∧ n ≤ 240) ∧ ∀ i : Nat, (i : Int) < n → pAnd (τ 96 i) 255 = T i
theorem hd_in {T : Nat → Int} {n p : Int} (h : hd T n p ≠ -1) : p < n := by
  unfold hd at h
  by_cases hp : p < n
  · exact hp
  · rw [if_neg hp] at h
    exact absurd rfl h
theorem hd_rng {T : Nat → Int} {n p : Int} (hT : TB T n) (hp : 0 ≤ p) : -1 ≤ hd T n p ∧ hd T n p ≤ 255 := by
  unfold hd
  by_cases h : p < n
  · rw [if_pos h]
    have := hT p.toNat (by omega)
    omega
  · rw [if_neg h]
    omega
/-- nothing but the tape's cell has changed -/
def CO (σ σ' : pS) : Prop := ∀ k x, k ≠ 1 → σ' k x = σ k x
/-- nothing of the reference has changed but place, fault, number -/
def MO (τ τ' : pS) : Prop := (∀ k x, k ≠ 84 → τ' k x = τ k x) ∧ ∀ x, x ≠ 19 → x ≠ 21 → x ≠ 22 → τ' 84 x = τ 84 x
theorem CO.rf (σ : pS) : CO σ σ := fun _ _ _ => rfl
theorem CO.tr {a b c : pS} (h1 : CO a b) (h2 : CO b c) : CO a c := fun k x h => (h2 k x h).trans (h1 k x h)
theorem MO.rf (σ : pS) : MO σ σ := ⟨fun _ _ _ => rfl, fun _ _ _ _ => rfl⟩
theorem MO.tr {a b c : pS} (h1 : MO a b) (h2 : MO b c) : MO a c := ⟨fun k x h => (h2.1 k x h).trans (h1.1 k x h), fun x a b c => (h2.2 x a b c).trans (h1.2 x a b c)⟩
section TPs
variable {σ τ : pS} {T : Nat → Int} {n p : Int}
theorem TP.go (h : TP σ T n p) {q : Int} (h0 : 0 ≤ q) (h1 : q ≤ n) : TP (pU σ 1 3 q) T n q := by
  obtain ⟨a, b, c, d⟩ := h
  refine ⟨pU_s _ _ _ _, (pU_i _ _ _ _ (by decide)).trans b, ⟨h0, h1, c.2.2⟩, fun i hi => (pU_c _ _ _ _ (by decide)).trans (d i hi)⟩
theorem TP.at (h : TP σ T n p) {σ' : pS} {q : Int} (h3 : σ' 1 3 = q) (h2 : σ' 1 2 = σ 1 2) (hb : ∀ i, σ' 2 i = σ 2 i) (h0 : 0 ≤ q) (h1 : q ≤ n) : TP σ' T n q := by
  obtain ⟨a, b, c, d⟩ := h
  exact ⟨h3, h2.trans b, ⟨h0, h1, c.2.2⟩, fun i hi => (hb i).trans (d i hi)⟩
theorem TM.at (h : TM τ T n p) {τ' : pS} {q : Int} (h3 : τ' 84 19 = q) (h2 : τ' 84 20 = τ 84 20) (hb : ∀ i, τ' 96 i = τ 96 i) (h0 : 0 ≤ q) (h1 : q ≤ n) : TM τ' T n q := by
  obtain ⟨a, b, c, d⟩ := h
  exact ⟨h3, h2.trans b, ⟨h0, h1, c.2.2⟩, fun i hi => by rw [hb i]; exact d i hi⟩
theorem CO.u (i : Nat) (v : Int) : CO σ (pU σ 1 i v) := fun k x h => pU_c _ _ _ _ h
theorem MO.u {i : Nat} (v : Int) (h : i = 19 ∨ i = 21 ∨ i = 22) : MO τ (pU τ 84 i v) := ⟨fun k x h => pU_c _ _ _ _ h, fun x a b c => pU_i _ _ _ _ (by omega)⟩
theorem c_sign (h : TP σ T n p) : f_Tape_sign_1 σ = some (hd T n p, σ) := by
  obtain ⟨h1, h2, ⟨h3, h4, h5⟩, h6⟩ := h
  unfold f_Tape_sign_1 hd
  rw [h1, h2, if_neg (by omega)]
  by_cases hp : n ≤ p
  · rw [if_pos hp, if_neg (by omega)]
  · rw [if_neg hp, if_neg (by omega), if_pos (by omega), if_pos (by omega), h6 p.toNat (by omega)]
theorem m_here (h : TM τ T n p) : f_M_here_84 τ = some (hd T n p, τ) := by
  obtain ⟨h1, h2, ⟨h3, h4, h5⟩, h6⟩ := h
  unfold f_M_here_84 hd
  rw [h1, h2]
  by_cases hp : n ≤ p
  · rw [if_pos hp, if_neg (by omega)]
  · rw [if_neg hp, if_pos (by omega), if_pos (by omega), h6 p.toNat (by omega)]
theorem ft_eq {k p : Int} (hk : 0 ≤ k ∧ k ≤ 9) (hp : 0 ≤ p ∧ p ≤ 1000) : pw (pw ((-1000) * k) - p) = -1000 * k - p := by
  rw [pw_id (z := (-1000) * k) (by omega) (by omega), pw_id (by omega) (by omega)]
theorem c_fail (h : TP σ T n p) {k : Int} (hk : 0 ≤ k ∧ k ≤ 9) : f_Tape_fail_1 k σ = some (0, pU σ 1 4 (-1000 * k - p)) := by
  obtain ⟨h1, h2, ⟨h3, h4, h5⟩, h6⟩ := h
  unfold f_Tape_fail_1
  rw [h1, ft_eq hk (by omega)]
theorem m_wrong {k p : Int} (hk : 0 ≤ k ∧ k ≤ 9) (hp : 0 ≤ p ∧ p ≤ 1000) : f_M_wrongAt_84 k p τ = some (0, pU τ 84 21 (-1000 * k - p)) := by
  unfold f_M_wrongAt_84
  rw [ft_eq hk hp]
theorem c_acc1 (h : TP σ T n p) {c : Int} (hc : hd T n p = c) (h0 : c ≠ -1) : ∃ σ', f_Tape_accept_1 c σ = some (1, σ') ∧ TP σ' T n (p + 1) ∧ CO σ σ' := by
  have hp := hd_in (hc ▸ h0)
  have h' := h
  obtain ⟨h1, h2, ⟨h3, h4, h5⟩, h6⟩ := h'
  refine ⟨pU σ 1 3 (p + 1), ?_, h.go (by omega) (by omega), CO.u _ _⟩
  unfold f_Tape_accept_1
  rw [c_sign h]
  dsimp only [Option.bind]
  rw [if_pos hc, h1, pw_id (by omega) (by omega)]
theorem c_acc0 (h : TP σ T n p) {c : Int} (hc : hd T n p ≠ c) : ∃ σ', f_Tape_accept_1 c σ = some (0, σ') ∧ σ' 1 4 = -1000 * 1 - p ∧ CO σ σ' := by
  refine ⟨pU σ 1 4 (-1000 * 1 - p), ?_, pU_s _ _ _ _, CO.u _ _⟩
  unfold f_Tape_accept_1
  rw [c_sign h]
  dsimp only [Option.bind]
  rw [if_neg hc, c_fail h (by omega)]
  rfl
theorem m_tak1 (h : TM τ T n p) {c : Int} (hc : hd T n p = c) (h0 : c ≠ -1) : ∃ τ', f_M_takes_84 c τ = some (1, τ') ∧ TM τ' T n (p + 1) ∧ MO τ τ' := by
  have hp := hd_in (hc ▸ h0)
  have h' := h
  obtain ⟨h1, h2, ⟨h3, h4, h5⟩, h6⟩ := h'
  refine ⟨pU τ 84 19 (p + 1), ?_, h.at (pU_s _ _ _ _) (pU_i _ _ _ _ (by decide)) (fun i => pU_c _ _ _ _ (by decide)) (by omega) (by omega), MO.u _ (by omega)⟩
  unfold f_M_takes_84
  rw [m_here h]
  dsimp only [Option.bind]
  rw [if_pos hc, h1, pw_id (by omega) (by omega)]
theorem m_tak0 (h : TM τ T n p) {c : Int} (hc : hd T n p ≠ c) : ∃ τ', f_M_takes_84 c τ = some (0, τ') ∧ τ' 84 21 = -1000 * 1 - p ∧ MO τ τ' := by
  have h' := h
  obtain ⟨h1, h2, ⟨h3, h4, h5⟩, h6⟩ := h'
  refine ⟨pU τ 84 21 (-1000 * 1 - p), ?_, pU_s _ _ _ _, MO.u _ (by omega)⟩
  unfold f_M_takes_84
  rw [m_here h]
  dsimp only [Option.bind]
  rw [if_neg hc, h1, m_wrong (by omega) (by omega)]
  rfl
theorem c_reg1 (h : TP σ T n p) (hc : 48 ≤ hd T n p ∧ hd T n p ≤ 55) : ∃ σ', f_Tape_readRegister_1 σ = some (hd T n p - 48, σ') ∧ TP σ' T n (p + 1) ∧ CO σ σ' := by
  have hp : p < n := hd_in (T := T) (by omega)
  have h' := h
  obtain ⟨h1, h2, ⟨h3, h4, h5⟩, h6⟩ := h'
  refine ⟨pU σ 1 3 (p + 1), ?_, h.go (by omega) (by omega), CO.u _ _⟩
  unfold f_Tape_readRegister_1
  rw [c_sign h]
  dsimp only [Option.bind]
  rw [pw_id (by omega) (by omega), if_neg (by omega), if_pos (by omega), h1, pw_id (by omega) (by omega)]
theorem c_reg0 (h : TP σ T n p) (hT : TB T n) (hc : ¬ (48 ≤ hd T n p ∧ hd T n p ≤ 55)) : ∃ σ', f_Tape_readRegister_1 σ = some (-1, σ') ∧ σ' 1 4 = -1000 * 1 - p ∧ CO σ σ' := by
  have hr := hd_rng hT (p := p) h.2.2.1.1
  refine ⟨pU σ 1 4 (-1000 * 1 - p), ?_, pU_s _ _ _ _, CO.u _ _⟩
  have e : f_Tape_readRegister_1_p18 σ = some (-1, pU σ 1 4 (-1000 * 1 - p)) := by
    unfold f_Tape_readRegister_1_p18
    rw [c_fail h (by omega)]
    rfl
  unfold f_Tape_readRegister_1
  rw [c_sign h]
  dsimp only [Option.bind]
  rw [pw_id (by omega) (by omega)]
  by_cases h8 : hd T n p - 48 < 0
  · rw [if_pos h8, e]
  · rw [if_neg h8, if_neg (by omega), e]
theorem m_in {a b c : Int} : f_M_in a b c τ = some (if b ≤ a ∧ a ≤ c then 1 else 0, τ) := by
  unfold f_M_in
  by_cases h1 : a < b
  · rw [if_pos h1, if_neg (by omega)]
  · rw [if_neg h1]
    by_cases h2 : c < a
    · rw [if_pos h2, if_neg (by omega)]
    · rw [if_neg h2, if_pos (by omega)]
theorem m_reg1 (h : TM τ T n p) (hc : 48 ≤ hd T n p ∧ hd T n p ≤ 55) : ∃ τ', f_M_readsRegister_84 τ = some (1, τ') ∧ TM τ' T n (p + 1) ∧ MO τ τ' ∧ τ' 84 22 = hd T n p - 48 := by
  have hp : p < n := hd_in (T := T) (by omega)
  have h' := h
  obtain ⟨h1, h2, ⟨h3, h4, h5⟩, h6⟩ := h'
  refine ⟨pU (pU τ 84 22 (hd T n p - 48)) 84 19 (p + 1), ?_, h.at (pU_s _ _ _ _) ((pU_i _ _ _ _ (by decide)).trans (pU_i _ _ _ _ (by decide))) (fun i => (pU_c _ _ _ _ (by decide)).trans (pU_c _ _ _ _ (by decide))) (by omega) (by omega), (MO.u _ (by omega)).tr (MO.u _ (by omega)), (pU_i _ _ _ _ (by decide)).trans (pU_s _ _ _ _)⟩
  unfold f_M_readsRegister_84
  rw [m_here h]
  dsimp only [Option.bind]
  rw [m_in, if_pos hc]
  dsimp only
  rw [if_neg (by decide), m_here h]
  dsimp only
  rw [pw_id (by omega) (by omega), h1, pw_id (by omega) (by omega)]
theorem m_reg0 (h : TM τ T n p) (hc : ¬ (48 ≤ hd T n p ∧ hd T n p ≤ 55)) : ∃ τ', f_M_readsRegister_84 τ = some (0, τ') ∧ τ' 84 21 = -1000 * 1 - p ∧ MO τ τ' := by
  have h' := h
  obtain ⟨h1, h2, ⟨h3, h4, h5⟩, h6⟩ := h'
  refine ⟨pU τ 84 21 (-1000 * 1 - p), ?_, pU_s _ _ _ _, MO.u _ (by omega)⟩
  unfold f_M_readsRegister_84
  rw [m_here h]
  dsimp only [Option.bind]
  rw [m_in, if_neg hc]
  dsimp only
  rw [if_pos rfl, h1, m_wrong (by omega) (by omega)]
  rfl
theorem c_dig (h : TP σ T n p) : f_Tape_digitNext_1 σ = some (if 48 ≤ hd T n p ∧ hd T n p ≤ 57 then 1 else 0, σ) := by
  unfold f_Tape_digitNext_1
  rw [c_sign h]
  dsimp only [Option.bind]
  by_cases h1 : hd T n p < 48
  · rw [if_pos h1, if_neg (by omega)]
  · rw [if_neg h1, c_sign h]
    dsimp only
    by_cases h2 : 57 < hd T n p
    · rw [if_pos h2, if_neg (by omega)]
    · rw [if_neg h2, if_pos (by omega)]
theorem m_dig (h : TM τ T n p) : f_M_isDigit_84 τ = some (if 48 ≤ hd T n p ∧ hd T n p ≤ 57 then 1 else 0, τ) := by
  unfold f_M_isDigit_84
  rw [m_here h]
  dsimp only [Option.bind]
  by_cases h1 : hd T n p < 48
  · rw [if_pos h1, if_neg (by omega)]
  · rw [if_neg h1, m_here h]
    dsimp only
    by_cases h2 : 57 < hd T n p
    · rw [if_pos h2, if_neg (by omega)]
    · rw [if_neg h2, if_pos (by omega)]
end TPs
def dgt (T : Nat → Int) (n p : Int) : Prop := 48 ≤ hd T n p ∧ hd T n p ≤ 57
def nm (T : Nat → Int) (n : Int) : Nat → Int → Int → (Int × Int) ⊕ Int
  | 0, v, p => if 48 ≤ hd T n p ∧ hd T n p ≤ 57 then .inr (-1000 * 2 - p) else .inl (v, p)
  | r + 1, v, p => if 48 ≤ hd T n p ∧ hd T n p ≤ 57 then nm T n r (10 * v + (hd T n p - 48)) (p + 1) else .inl (v, p)
theorem nm_0t {T : Nat → Int} {n v p : Int} (h : 48 ≤ hd T n p ∧ hd T n p ≤ 57) : nm T n 0 v p = .inr (-1000 * 2 - p) := if_pos h
theorem nm_f {T : Nat → Int} {n v p : Int} {r : Nat} (h : ¬ (48 ≤ hd T n p ∧ hd T n p ≤ 57)) : nm T n r v p = .inl (v, p) := by
  cases r with
  | zero => exact if_neg h
  | succ r => exact if_neg h
theorem nm_t {T : Nat → Int} {n v p : Int} {r : Nat} (h : 48 ≤ hd T n p ∧ hd T n p ≤ 57) : nm T n (r + 1) v p = nm T n r (10 * v + (hd T n p - 48)) (p + 1) := if_pos h
def p10 : Nat → Int
  | 0 => 1
  | k + 1 => 10 * p10 k
theorem p10_pos : ∀ r, 1 ≤ p10 r
  | 0 => by decide
  | r + 1 => by have := p10_pos r; show 1 ≤ 10 * p10 r; omega
theorem p10_le {v : Int} {r m : Nat} (hv : 0 ≤ v) (h : (v + 1) * p10 r ≤ p10 m) : v + 1 ≤ p10 m := by
  have h1 := p10_pos r
  have h2 : (v + 1) * 1 ≤ (v + 1) * p10 r := Int.mul_le_mul_of_nonneg_left h1 (by omega)
  omega
theorem p10_st {v d : Int} {r m : Nat} (hd : d ≤ 9) (h : (v + 1) * p10 (r + 1) ≤ p10 m) : (10 * v + d + 1) * p10 r ≤ p10 m := by
  have h1 : (10 * v + d + 1) * p10 r ≤ (10 * (v + 1)) * p10 r := Int.mul_le_mul_of_nonneg_right (by omega) (by have := p10_pos r; omega)
  have h2 : (10 * (v + 1)) * p10 r = (v + 1) * (10 * p10 r) := by rw [Int.mul_comm 10 (v + 1), Int.mul_assoc]
  have h3 : (v + 1) * p10 (r + 1) = (v + 1) * (10 * p10 r) := rfl
  omega
theorem p10_m {m : Nat} (h : m ≤ 5) : p10 m ≤ 100000 := by
  match m, h with
  | 0, _ => decide
  | 1, _ => decide
  | 2, _ => decide
  | 3, _ => decide
  | 4, _ => decide
  | 5, _ => decide
  | k + 6, h => omega
section NUM
variable {T : Nat → Int} {n : Int}
theorem c_p64 {σ : pS} {v p : Int} (h : TP σ T n p) : f_Tape_readDigits_1_p64 v σ = if 48 ≤ hd T n p ∧ hd T n p ≤ 57 then some (-1, pU σ 1 4 (-1000 * 2 - p)) else some (v, σ) := by
  unfold f_Tape_readDigits_1_p64
  rw [c_dig h]
  simp only [Option.bind_some]
  by_cases hg : 48 ≤ hd T n p ∧ hd T n p ≤ 57
  · rw [if_pos hg, if_neg (by decide), c_fail h (by omega), if_pos hg]
    rfl
  · rw [if_neg hg, if_pos rfl, if_neg hg]
theorem c_nm {m : Nat} (hm : m ≤ 5) : ∀ (r : Nat) (v p : Int) (σ : pS) (fu : Nat), TP σ T n p → r ≤ m → 0 ≤ v → (v + 1) * p10 r ≤ p10 m → (r = m → 48 ≤ hd T n p ∧ hd T n p ≤ 57) → 1 ≤ m → r < fu →
    match nm T n r v p with
    | .inl q => ∃ σ', f_Tape_readDigits_1_p4 fu (m : Int) v ((m : Int) - (r : Int)) σ = some (q.1, σ') ∧ TP σ' T n q.2 ∧ CO σ σ' ∧ 0 ≤ q.1 ∧ q.1 + 1 ≤ p10 m ∧ p ≤ q.2
    | .inr f => ∃ σ', f_Tape_readDigits_1_p4 fu (m : Int) v ((m : Int) - (r : Int)) σ = some (-1, σ') ∧ σ' 1 4 = f ∧ CO σ σ' := by
  intro r
  induction r with
  | zero =>
    intro v p σ fu h hr hv hb h4 hm1 hfu
    obtain ⟨fu, rfl⟩ : ∃ k, fu = k + 1 := ⟨fu - 1, by omega⟩
    unfold f_Tape_readDigits_1_p4
    rw [if_pos (by omega), c_p64 h]
    by_cases hg : 48 ≤ hd T n p ∧ hd T n p ≤ 57
    · rw [nm_0t hg]
      try dsimp only
      rw [if_pos hg]
      exact ⟨_, rfl, pU_s _ _ _ _, CO.u _ _⟩
    · rw [nm_f hg]
      try dsimp only
      rw [if_neg hg]
      exact ⟨_, rfl, h, CO.rf _, hv, p10_le hv hb, Int.le_refl _⟩
  | succ r ih =>
    intro v p σ fu h hr hv hb h4 hm1 hfu
    obtain ⟨fu, rfl⟩ : ∃ k, fu = k + 1 := ⟨fu - 1, by omega⟩
    have hvm := p10_le hv hb
    have hmm := p10_m hm
    have h' := h
    obtain ⟨h1, h2, ⟨h3, h3', h5⟩, h6⟩ := h'
    -- a digit's step
    have st : 48 ≤ hd T n p ∧ hd T n p ≤ 57 → f_Tape_readDigits_1_p20 (f_Tape_readDigits_1_p4 fu) (m : Int) v ((m : Int) - ((r + 1 : Nat) : Int)) σ = f_Tape_readDigits_1_p4 fu (m : Int) (10 * v + (hd T n p - 48)) ((m : Int) - (r : Int)) (pU σ 1 3 (p + 1)) := by
      intro hg
      unfold f_Tape_readDigits_1_p20
      rw [c_dig h, if_pos hg]
      simp only [Option.bind_some]
      rw [if_neg (by decide), c_sign h]
      simp only [Option.bind_some]
      rw [pw_id (z := v * 10) (by omega) (by omega), pw_id (z := v * 10 + hd T n p) (by omega) (by omega), pw_id (by omega) (by omega), pw_id (by omega) (by omega), h1, pw_id (by omega) (by omega)]
      rw [show v * 10 + hd T n p - 48 = 10 * v + (hd T n p - 48) by omega, show (m : Int) - ((r + 1 : Nat) : Int) + 1 = (m : Int) - (r : Int) by omega]
    unfold f_Tape_readDigits_1_p4
    rw [if_neg (by omega)]
    by_cases hg : 48 ≤ hd T n p ∧ hd T n p ≤ 57
    · rw [nm_t hg]
      have hp : p < n := hd_in (T := T) (by omega)
      have hi := ih (10 * v + (hd T n p - 48)) (p + 1) (pU σ 1 3 (p + 1)) fu (h.go (by omega) (by omega)) (by omega) (by omega) (p10_st (by omega) hb) (by omega) hm1 (by omega)
      have e : (if ((m : Int) - ((r + 1 : Nat) : Int)) = 0 then f_Tape_readDigits_1_p20 (f_Tape_readDigits_1_p4 fu) (m : Int) v ((m : Int) - ((r + 1 : Nat) : Int)) σ else (f_Tape_digitNext_1 σ).bind fun q10 => if q10.1 = 0 then f_Tape_readDigits_1_p64 v q10.2 else f_Tape_readDigits_1_p20 (f_Tape_readDigits_1_p4 fu) (m : Int) v ((m : Int) - ((r + 1 : Nat) : Int)) q10.2) = f_Tape_readDigits_1_p4 fu (m : Int) (10 * v + (hd T n p - 48)) ((m : Int) - (r : Int)) (pU σ 1 3 (p + 1)) := by
        by_cases hz : ((m : Int) - ((r + 1 : Nat) : Int)) = 0
        · rw [if_pos hz, st hg]
        · rw [if_neg hz, c_dig h, if_pos hg]
          simp only [Option.bind_some]
          rw [if_neg (by decide), st hg]
      rw [e]
      split at hi
      · obtain ⟨σ', a, b, c, d⟩ := hi
        exact ⟨σ', a, b, (CO.u _ _).tr c, d.1, d.2.1, by omega⟩
      · obtain ⟨σ', a, b, c⟩ := hi
        exact ⟨σ', a, b, (CO.u _ _).tr c⟩
    · rw [nm_f hg]
      try dsimp only
      have hz : ¬ ((m : Int) - ((r + 1 : Nat) : Int)) = 0 := fun hz => hg (h4 (by omega))
      rw [if_neg hz, c_dig h, if_neg hg]
      simp only [Option.bind_some]
      rw [if_pos trivial, c_p64 h, if_neg hg]
      exact ⟨_, rfl, h, CO.rf _, hv, hvm, Int.le_refl _⟩
def sNum (T : Nat → Int) (n : Int) (m : Nat) (p : Int) : (Int × Int) ⊕ Int := if 48 ≤ hd T n p ∧ hd T n p ≤ 57 then nm T n m 0 p else .inr (-1000 * 1 - p)
theorem nm_gt {T : Nat → Int} {n : Int} : ∀ (r : Nat) (v p : Int) (q : Int × Int), nm T n r v p = .inl q → p ≤ q.2
  | 0, v, p, q, h => by
    unfold nm at h
    split at h
    · cases h
    · cases h; exact Int.le_refl _
  | r + 1, v, p, q, h => by
    unfold nm at h
    split at h
    · have := nm_gt r _ _ q h; omega
    · cases h; exact Int.le_refl _
theorem sNum_gt {T : Nat → Int} {n : Int} {m : Nat} {p : Int} {q : Int × Int} (hm : 1 ≤ m) (h : sNum T n m p = .inl q) : p < q.2 := by
  unfold sNum at h
  split at h
  · rename_i hg
    obtain ⟨m, rfl⟩ : ∃ k, m = k + 1 := ⟨m - 1, by omega⟩
    unfold nm at h
    rw [if_pos hg] at h
    have := nm_gt m _ _ q h
    omega
  · cases h
theorem c_num {σ : pS} {p : Int} {m : Nat} (hm : m ≤ 5) (hm1 : 1 ≤ m) (h : TP σ T n p) : match sNum T n m p with
    | .inl q => ∃ σ', f_Tape_readDigits_1 (m : Int) σ = some (q.1, σ') ∧ TP σ' T n q.2 ∧ CO σ σ' ∧ 0 ≤ q.1 ∧ q.1 + 1 ≤ p10 m
    | .inr f => ∃ σ', f_Tape_readDigits_1 (m : Int) σ = some (-1, σ') ∧ σ' 1 4 = f ∧ CO σ σ' := by
  unfold sNum f_Tape_readDigits_1
  by_cases hg : 48 ≤ hd T n p ∧ hd T n p ≤ 57
  · rw [if_pos hg]
    have hi := c_nm hm m 0 p σ 4096 h (Nat.le_refl _) (Int.le_refl _) (by rw [Int.zero_add, Int.one_mul]; exact Int.le_refl _) (fun _ => hg) hm1 (by omega)
    rw [show (m : Int) - (m : Int) = 0 by omega] at hi
    split at hi
    · obtain ⟨σ', a, b, c, d⟩ := hi
      exact ⟨σ', a, b, c, d.1, d.2.1⟩
    · exact hi
  · rw [if_neg hg]
    try dsimp only
    refine ⟨pU σ 1 4 (-1000 * 1 - p), ?_, pU_s _ _ _ _, CO.u _ _⟩
    rw [show (4096 : Nat) = 4095 + 1 from rfl]
    unfold f_Tape_readDigits_1_p4
    rw [if_neg (by omega), if_pos rfl]
    unfold f_Tape_readDigits_1_p20
    rw [c_dig h, if_neg hg]
    simp only [Option.bind_some]
    rw [if_pos trivial, c_fail h (by omega)]
    rfl
theorem m_nm4 : ∀ (r : Nat) (v p : Int) (τ : pS) (fu : Nat), TM τ T n p → r ≤ 4 → τ 84 22 = v → 0 ≤ v → (v + 1) * p10 r ≤ p10 4 → (4 : Int) - r ≤ p → r < fu →
    match nm T n r v p with
    | .inl q => ∃ τ', f_M_readsAmount_84_p27 fu (p - (4 - (r : Int))) τ = some (1, τ') ∧ TM τ' T n q.2 ∧ MO τ τ' ∧ τ' 84 22 = q.1
    | .inr f => ∃ τ', f_M_readsAmount_84_p27 fu (p - (4 - (r : Int))) τ = some (0, τ') ∧ τ' 84 21 = f ∧ MO τ τ' := by
  intro r
  induction r with
  | zero =>
    intro v p τ fu h hr hv h0 hb hp4 hfu
    obtain ⟨fu, rfl⟩ : ∃ k, fu = k + 1 := ⟨fu - 1, by omega⟩
    have h' := h
    obtain ⟨h1, h2, ⟨h3, h3', h5⟩, h6⟩ := h'
    unfold f_M_readsAmount_84_p27
    rw [m_dig h]
    simp only [Option.bind_some]
    by_cases hg : 48 ≤ hd T n p ∧ hd T n p ≤ 57
    · rw [nm_0t hg, if_pos hg]
      try dsimp only
      rw [if_neg (by decide), h1, pw_id (by omega) (by omega), if_pos (by omega), m_wrong (by omega) (by omega)]
      exact ⟨pU τ 84 21 (-1000 * 2 - p), rfl, pU_s _ _ _ _, MO.u _ (by omega)⟩
    · rw [nm_f hg, if_neg hg]
      try dsimp only
      rw [if_pos rfl]
      exact ⟨_, rfl, h, MO.rf _, hv⟩
  | succ r ih =>
    intro v p τ fu h hr hv h0 hb hp4 hfu
    obtain ⟨fu, rfl⟩ : ∃ k, fu = k + 1 := ⟨fu - 1, by omega⟩
    have hvm := p10_le h0 hb
    have hmm := p10_m (m := 4) (by omega)
    have h' := h
    obtain ⟨h1, h2, ⟨h3, h3', h5⟩, h6⟩ := h'
    unfold f_M_readsAmount_84_p27
    rw [m_dig h]
    simp only [Option.bind_some]
    by_cases hg : 48 ≤ hd T n p ∧ hd T n p ≤ 57
    · have hp : p < n := hd_in (T := T) (by omega)
      rw [nm_t hg, if_pos hg]
      try dsimp only
      rw [if_neg (by decide), h1, pw_id (z := p - (4 - ((r + 1 : Nat) : Int)) + 4) (by omega) (by omega), if_neg (by omega), m_here h]
      simp only [Option.bind_some]
      rw [h1, hv, pw_id (z := 10 * v) (by omega) (by omega), pw_id (z := 10 * v + hd T n p) (by omega) (by omega), pw_id (z := 10 * v + hd T n p - 48) (by omega) (by omega), pw_id (z := p + 1) (by omega) (by omega)]
      have hi := ih (10 * v + (hd T n p - 48)) (p + 1) (pU (pU τ 84 22 (10 * v + hd T n p - 48)) 84 19 (p + 1)) fu (h.at (pU_s _ _ _ _) ((pU_i _ _ _ _ (by decide)).trans (pU_i _ _ _ _ (by decide))) (fun i => (pU_c _ _ _ _ (by decide)).trans (pU_c _ _ _ _ (by decide))) (by omega) (by omega)) (by omega) (((pU_i _ _ _ _ (by decide)).trans (pU_s _ _ _ _)).trans (by omega)) (by omega) (p10_st (by omega) hb) (by omega) (by omega)
      rw [show p + 1 - (4 - (r : Int)) = p - (4 - ((r + 1 : Nat) : Int)) by omega] at hi
      have hM : MO τ (pU (pU τ 84 22 (10 * v + hd T n p - 48)) 84 19 (p + 1)) := (MO.u _ (by omega)).tr (MO.u _ (by omega))
      split at hi
      · obtain ⟨τ', a, b, c, d⟩ := hi
        exact ⟨τ', a, b, hM.tr c, d⟩
      · obtain ⟨τ', a, b, c⟩ := hi
        exact ⟨τ', a, b, hM.tr c⟩
    · rw [nm_f hg, if_neg hg]
      try dsimp only
      rw [if_pos rfl]
      exact ⟨_, rfl, h, MO.rf _, hv⟩
theorem m_num {τ : pS} {p : Int} (h : TM τ T n p) : match sNum T n 4 p with
    | .inl q => ∃ τ', f_M_readsAmount_84 τ = some (1, τ') ∧ TM τ' T n q.2 ∧ MO τ τ' ∧ τ' 84 22 = q.1
    | .inr f => ∃ τ', f_M_readsAmount_84 τ = some (0, τ') ∧ τ' 84 21 = f ∧ MO τ τ' := by
  have h' := h
  obtain ⟨h1, h2, ⟨h3, h3', h5⟩, h6⟩ := h'
  unfold sNum f_M_readsAmount_84
  rw [m_dig h]
  simp only [Option.bind_some]
  by_cases hg : 48 ≤ hd T n p ∧ hd T n p ≤ 57
  · rw [if_pos hg, if_pos hg]
    try dsimp only
    rw [if_neg (by decide), h1]
    have hi := m_nm4 4 0 p (pU τ 84 22 0) 4096 (h.at ((pU_i _ _ _ _ (by decide)).trans h1) (pU_i _ _ _ _ (by decide)) (fun i => pU_c _ _ _ _ (by decide)) h3 h3') (Nat.le_refl _) (pU_s _ _ _ _) (Int.le_refl _) (by decide) (by omega) (by omega)
    rw [show p - (4 - ((4 : Nat) : Int)) = p by omega] at hi
    split at hi
    · obtain ⟨τ', a, b, c, d⟩ := hi
      exact ⟨τ', a, b, (MO.u _ (by omega)).tr c, d⟩
    · obtain ⟨τ', a, b, c⟩ := hi
      exact ⟨τ', a, b, (MO.u _ (by omega)).tr c⟩
  · rw [if_neg hg, if_neg hg]
    try dsimp only
    rw [if_pos rfl, h1, m_wrong (by omega) (by omega)]
    exact ⟨pU τ 84 21 (-1000 * 1 - p), rfl, pU_s _ _ _ _, MO.u _ (by omega)⟩
end NUM
/-- but at P nothing has changed -/
def FR (P : Nat → Nat → Prop) (σ σ' : pS) : Prop := ∀ k x, P k x ∨ σ' k x = σ k x
theorem FR.rf (P : Nat → Nat → Prop) (σ : pS) : FR P σ σ := fun _ _ => Or.inr rfl
theorem FR.tr {P : Nat → Nat → Prop} {a b c : pS} (h1 : FR P a b) (h2 : FR P b c) : FR P a c := fun k x => by
  rcases h1 k x with h | h
  · exact Or.inl h
  · rcases h2 k x with g | g
    · exact Or.inl g
    · exact Or.inr (g.trans h)
theorem FR.mono {P Q : Nat → Nat → Prop} {a b : pS} (h1 : FR P a b) (h : ∀ k x, P k x → Q k x) : FR Q a b := fun k x => (h1 k x).imp (h k x) id
theorem FR.get {P : Nat → Nat → Prop} {a b : pS} (h1 : FR P a b) {k x : Nat} (h : ¬ P k x) : b k x = a k x := (h1 k x).resolve_left h
theorem FR.u {P : Nat → Nat → Prop} {σ : pS} {j i : Nat} {v : Int} (h : P j i) : FR P σ (pU σ j i v) := fun k x => by
  by_cases hk : k = j ∧ x = i
  · exact Or.inl (by rw [hk.1, hk.2]; exact h)
  · exact Or.inr (if_neg hk)
theorem CO.fr {P : Nat → Nat → Prop} {a b : pS} (h : CO a b) (h1 : ∀ x, P 1 x) : FR P a b := fun k x => by
  by_cases hk : k = 1
  · exact Or.inl (by rw [hk]; exact h1 x)
  · exact Or.inr (h k x hk)
theorem MO.fr {P : Nat → Nat → Prop} {a b : pS} (h : MO a b) (h1 : P 84 19) (h2 : P 84 21) (h3 : P 84 22) : FR P a b := fun k x => by
  by_cases hk : k = 84
  · subst hk
    by_cases g1 : x = 19
    · exact Or.inl (g1 ▸ h1)
    · by_cases g2 : x = 21
      · exact Or.inl (g2 ▸ h2)
      · by_cases g3 : x = 22
        · exact Or.inl (g3 ▸ h3)
        · exact Or.inr (h.2 x g1 g2 g3)
  · exact Or.inr (h.1 k x hk)
section SP
variable {T : Nat → Int} {n : Int}
theorem TP.u {σ : pS} {p : Int} (h : TP σ T n p) {k : Nat} (i : Nat) (v : Int) (h1 : k ≠ 1) (h2 : k ≠ 2) : TP (pU σ k i v) T n p := by
  obtain ⟨a, b, c, d⟩ := h
  exact ⟨(pU_c _ _ _ _ h1.symm).trans a, (pU_c _ _ _ _ h1.symm).trans b, c, fun j hj => (pU_c _ _ _ _ h2.symm).trans (d j hj)⟩
theorem TM.u {τ : pS} {p : Int} (h : TM τ T n p) {k : Nat} (i : Nat) (v : Int) (h1 : k ≠ 84) (h2 : k ≠ 96) : TM (pU τ k i v) T n p := by
  obtain ⟨a, b, c, d⟩ := h
  exact ⟨(pU_c _ _ _ _ h1.symm).trans a, (pU_c _ _ _ _ h1.symm).trans b, c, fun j hj => by rw [pU_c _ _ _ _ h2.symm]; exact d j hj⟩
def sReg (T : Nat → Int) (n p : Int) : (Int × Int) ⊕ Int := if 48 ≤ hd T n p ∧ hd T n p ≤ 55 then .inl (hd T n p - 48, p + 1) else .inr (-1000 * 1 - p)
def sTak (T : Nat → Int) (n c p : Int) : Int ⊕ Int := if hd T n p = c then .inl (p + 1) else .inr (-1000 * 1 - p)
def sGiv (T : Nat → Int) (n p : Int) : (Int × Int) ⊕ Int := match sReg T n p with
  | .inr f => .inr f
  | .inl q => (match sTak T n 44 q.2 with
    | .inr f => .inr f
    | .inl p1 => .inl (q.1, p1))
def sPlN (T : Nat → Int) (n b p : Int) : ((Int × Int) × Int) ⊕ Int := match sNum T n 4 p with
  | .inr f => .inr f
  | .inl w => .inl ((b, w.1), w.2)
def sPlc (T : Nat → Int) (n p : Int) : ((Int × Int) × Int) ⊕ Int := if hd T n p = 114 then (match sReg T n (p + 1) with
    | .inr f => .inr f
    | .inl q => (match sTak T n 43 q.2 with
      | .inr f => .inr f
      | .inl p1 => sPlN T n q.1 p1)) else sPlN T n (-1) p
def ko (c : Int) : Int := if c = 35 then 0 else if c = 38 then 1 else if c = 42 then 1 else if c = 43 then 1 else if c = 45 then 1 else if c = 62 then 1 else if c = 76 then 2 else if c = 83 then 3 else if c = 94 then 1 else -1
def so (c : Int) : Int := if c = 98 then 1 else if c = 104 then 2 else if c = 119 then 4 else 0
/-- kind, sign, size, to, one, other, base, number -/
abbrev O8 : Type := Int × Int × Int × Int × Int × Int × Int × Int
def sOp0 (T : Nat → Int) (n p : Int) : (O8 × Int) ⊕ Int := match sGiv T n (p + 1) with
  | .inr f => .inr f
  | .inl q => (match sNum T n 4 q.2 with
    | .inr f => .inr f
    | .inl w => .inl ((0, hd T n p, 0, q.1, -1, -1, -1, w.1), w.2))
def sOp1 (T : Nat → Int) (n p : Int) : (O8 × Int) ⊕ Int := match sGiv T n (p + 1) with
  | .inr f => .inr f
  | .inl q => (match sReg T n q.2 with
    | .inr f => .inr f
    | .inl a => (match sTak T n 44 a.2 with
      | .inr f => .inr f
      | .inl p1 => (match sReg T n p1 with
        | .inr f => .inr f
        | .inl b => .inl ((1, hd T n p, 0, q.1, a.1, b.1, -1, 0), b.2))))
/-- size, to, base, number -/
def sMov (T : Nat → Int) (n p : Int) : ((Int × Int × Int × Int) × Int) ⊕ Int := if so (hd T n p) = 0 then .inr (-1000 * 1 - p) else (match sGiv T n (p + 1) with
  | .inr f => .inr f
  | .inl q => (match sPlc T n q.2 with
    | .inr f => .inr f
    | .inl w => .inl ((so (hd T n p), q.1, w.1.1, w.1.2), w.2)))
def sOp2 (T : Nat → Int) (n p k : Int) : (O8 × Int) ⊕ Int := match sMov T n (p + 1) with
  | .inr f => .inr f
  | .inl w => .inl ((k, hd T n p, w.1.1, w.1.2.1, -1, -1, w.1.2.2.1, w.1.2.2.2), w.2)
def sOp (T : Nat → Int) (n p : Int) : (O8 × Int) ⊕ Int := if ko (hd T n p) = -1 then .inr (-1000 * 1 - p) else if ko (hd T n p) = 0 then sOp0 T n p else if ko (hd T n p) = 1 then sOp1 T n p else sOp2 T n p (ko (hd T n p))
theorem ko_c {c : Int} {σ : pS} : f_Prog_kindOf c σ = some (ko c, σ) := by
  unfold f_Prog_kindOf ko
  repeat' split
  all_goals rfl
theorem ko_m {c : Int} {σ : pS} : f_M_kindBy c σ = some (ko c, σ) := by
  unfold f_M_kindBy ko
  repeat' split
  all_goals rfl
theorem so_c {c : Int} {σ : pS} : f_Prog_sizeOf c σ = some (so c, σ) := by
  unfold f_Prog_sizeOf so
  repeat' split
  all_goals rfl
theorem so_m {c : Int} {σ : pS} : f_M_sizeBy c σ = some (if so c = 0 then -1 else so c, σ) := by
  unfold f_M_sizeBy so
  repeat' split
  all_goals first | rfl | omega
theorem ko_r (c : Int) : -1 ≤ ko c ∧ ko c ≤ 3 := by
  unfold ko
  repeat' split
  all_goals decide
theorem so_r (c : Int) : 0 ≤ so c ∧ so c ≤ 4 := by
  unfold so
  repeat' split
  all_goals decide
theorem ko_in {p : Int} (h : ko (hd T n p) ≠ -1) : p < n := by
  refine hd_in (T := T) (fun e => h ?_)
  rw [e]
  rfl
theorem so_in {p : Int} (h : so (hd T n p) ≠ 0) : p < n := by
  refine hd_in (T := T) (fun e => h ?_)
  rw [e]
  rfl
/-- the readers, each by what it should find -/
theorem c_reg {σ : pS} {p : Int} (h : TP σ T n p) (hT : TB T n) : match sReg T n p with
    | .inl q => ∃ σ', f_Tape_readRegister_1 σ = some (q.1, σ') ∧ TP σ' T n q.2 ∧ CO σ σ' ∧ 0 ≤ q.1 ∧ q.1 ≤ 7
    | .inr f => ∃ σ', f_Tape_readRegister_1 σ = some (-1, σ') ∧ σ' 1 4 = f ∧ CO σ σ' := by
  unfold sReg
  by_cases hc : 48 ≤ hd T n p ∧ hd T n p ≤ 55
  · rw [if_pos hc]
    obtain ⟨σ', a, b, c⟩ := c_reg1 h hc
    exact ⟨σ', a, b, c, by dsimp only; omega, by dsimp only; omega⟩
  · rw [if_neg hc]
    exact c_reg0 h hT hc
theorem m_reg {τ : pS} {p : Int} (h : TM τ T n p) : match sReg T n p with
    | .inl q => ∃ τ', f_M_readsRegister_84 τ = some (1, τ') ∧ TM τ' T n q.2 ∧ MO τ τ' ∧ τ' 84 22 = q.1
    | .inr f => ∃ τ', f_M_readsRegister_84 τ = some (0, τ') ∧ τ' 84 21 = f ∧ MO τ τ' := by
  unfold sReg
  by_cases hc : 48 ≤ hd T n p ∧ hd T n p ≤ 55
  · rw [if_pos hc]
    exact m_reg1 h hc
  · rw [if_neg hc]
    exact m_reg0 h hc
theorem c_tak {σ : pS} {p c : Int} (h : TP σ T n p) (h0 : c ≠ -1) : match sTak T n c p with
    | .inl q => ∃ σ', f_Tape_accept_1 c σ = some (1, σ') ∧ TP σ' T n q ∧ CO σ σ'
    | .inr f => ∃ σ', f_Tape_accept_1 c σ = some (0, σ') ∧ σ' 1 4 = f ∧ CO σ σ' := by
  unfold sTak
  by_cases hc : hd T n p = c
  · rw [if_pos hc]
    exact c_acc1 h hc h0
  · rw [if_neg hc]
    exact c_acc0 h hc
theorem m_tak {τ : pS} {p c : Int} (h : TM τ T n p) (h0 : c ≠ -1) : match sTak T n c p with
    | .inl q => ∃ τ', f_M_takes_84 c τ = some (1, τ') ∧ TM τ' T n q ∧ MO τ τ'
    | .inr f => ∃ τ', f_M_takes_84 c τ = some (0, τ') ∧ τ' 84 21 = f ∧ MO τ τ' := by
  unfold sTak
  by_cases hc : hd T n p = c
  · rw [if_pos hc]
    exact m_tak1 h hc h0
  · rw [if_neg hc]
    exact m_tak0 h hc
def Pg (c : Nat) (i : Nat) (k x : Nat) : Prop := k = 1 ∨ (k = c ∧ x = i)
theorem c_giv {σ : pS} {p i : Int} (h : TP σ T n p) (hT : TB T n) (hi : 0 ≤ i ∧ i < 20) : match sGiv T n p with
    | .inl q => ∃ σ', f_Prog_readGiven_45_1 i σ = some (1, σ') ∧ TP σ' T n q.2 ∧ FR (Pg 49 i.toNat) σ σ' ∧ σ' 49 i.toNat = q.1 ∧ 0 ≤ q.1 ∧ q.1 ≤ 7
    | .inr f => ∃ σ', f_Prog_readGiven_45_1 i σ = some (0, σ') ∧ σ' 1 4 = f ∧ FR (Pg 49 i.toNat) σ σ' := by
  unfold sGiv f_Prog_readGiven_45_1
  have h1 := c_reg h hT
  cases hr : sReg T n p with
  | inr f =>
    rw [hr] at h1
    obtain ⟨σ', a, b, c⟩ := h1
    dsimp only
    rw [a, Option.bind_some, if_pos hi, if_pos hi, if_pos (pU_s _ _ _ _)]
    exact ⟨_, rfl, (pU_c _ _ _ _ (by decide)).trans b, (c.fr (fun x => Or.inl rfl)).tr (FR.u (Or.inr ⟨rfl, rfl⟩))⟩
  | inl q =>
    rw [hr] at h1
    obtain ⟨σ', a, b, c, d⟩ := h1
    dsimp only at a b d ⊢
    have h2 := c_tak (c := 44) (b.u (k := 49) i.toNat q.1 (by decide) (by decide)) (by decide)
    rw [a, Option.bind_some, if_pos hi, if_pos hi]
    dsimp only
    rw [if_neg (by rw [pU_s]; omega)]
    have hF : FR (Pg 49 i.toNat) σ (pU σ' 49 i.toNat q.1) := (c.fr (fun x => Or.inl rfl)).tr (FR.u (Or.inr ⟨rfl, rfl⟩))
    cases ht : sTak T n 44 q.2 with
    | inr f =>
      rw [ht] at h2
      obtain ⟨σ2, a2, b2, c2⟩ := h2
      rw [a2, Option.bind_some]
      exact ⟨σ2, rfl, b2, hF.tr (c2.fr (fun x => Or.inl rfl))⟩
    | inl p1 =>
      rw [ht] at h2
      obtain ⟨σ2, a2, b2, c2⟩ := h2
      rw [a2, Option.bind_some]
      exact ⟨σ2, rfl, b2, hF.tr (c2.fr (fun x => Or.inl rfl)), (c2 _ _ (by decide)).trans (pU_s _ _ _ _), d⟩
theorem c_nmb {σ : pS} {p i : Int} (h : TP σ T n p) (hi : 0 ≤ i ∧ i < 20) : match sNum T n 4 p with
    | .inl q => ∃ σ', f_Prog_readNumber_45_1 i σ = some (1, σ') ∧ TP σ' T n q.2 ∧ FR (Pg 52 i.toNat) σ σ' ∧ σ' 52 i.toNat = q.1 ∧ 0 ≤ q.1 ∧ q.1 ≤ 9999
    | .inr f => ∃ σ', f_Prog_readNumber_45_1 i σ = some (0, σ') ∧ σ' 1 4 = f ∧ FR (Pg 52 i.toNat) σ σ' := by
  unfold f_Prog_readNumber_45_1
  have h1 := c_num (m := 4) (by omega) (by omega) h
  cases hr : sNum T n 4 p with
  | inr f =>
    rw [hr] at h1
    obtain ⟨σ', a, b, c⟩ := h1
    have a : f_Tape_readDigits_1 4 σ = some (-1, σ') := a
    dsimp only
    rw [a, Option.bind_some, if_pos hi, if_pos hi, if_pos (pU_s _ _ _ _)]
    exact ⟨_, rfl, (pU_c _ _ _ _ (by decide)).trans b, (c.fr (fun x => Or.inl rfl)).tr (FR.u (Or.inr ⟨rfl, rfl⟩))⟩
  | inl q =>
    rw [hr] at h1
    obtain ⟨σ', a, b, c, d, e⟩ := h1
    have a : f_Tape_readDigits_1 4 σ = some (q.1, σ') := a
    have e4 : p10 4 = 10000 := by decide
    dsimp only at d e ⊢
    rw [a, Option.bind_some, if_pos hi, if_pos hi]
    dsimp only
    rw [if_neg (by rw [pU_s]; omega)]
    exact ⟨_, rfl, b.u _ _ (by decide) (by decide), (c.fr (fun x => Or.inl rfl)).tr (FR.u (Or.inr ⟨rfl, rfl⟩)), pU_s _ _ _ _, d, by omega⟩
end SP
section CP
variable {T : Nat → Int} {n : Int}
def Pp (i : Nat) (k x : Nat) : Prop := k = 1 ∨ ((k = 51 ∨ k = 52) ∧ x = i)
theorem c_116 {σ : pS} {p i : Int} (h : TP σ T n p) (hi : 0 ≤ i ∧ i < 20) : match sNum T n 4 p with
    | .inl q => ∃ σ', f_Prog_readMove_45_1_p116 i σ = some (1, σ') ∧ TP σ' T n q.2 ∧ FR (Pg 52 i.toNat) σ σ' ∧ σ' 52 i.toNat = q.1 ∧ 0 ≤ q.1 ∧ q.1 ≤ 9999
    | .inr f => ∃ σ', f_Prog_readMove_45_1_p116 i σ = some (0, σ') ∧ σ' 1 4 = f ∧ FR (Pg 52 i.toNat) σ σ' := by
  have h1 := c_nmb h hi
  unfold f_Prog_readMove_45_1_p116
  cases hr : sNum T n 4 p with
  | inr f =>
    rw [hr] at h1
    obtain ⟨σ', a, b, c⟩ := h1
    dsimp only
    rw [a, Option.bind_some]
    dsimp only
    rw [if_pos (by decide)]
    exact ⟨σ', rfl, b, c⟩
  | inl q =>
    rw [hr] at h1
    obtain ⟨σ', a, b⟩ := h1
    dsimp only
    rw [a, Option.bind_some]
    dsimp only
    rw [if_pos (by decide)]
    exact ⟨σ', rfl, b⟩
theorem c_pln {σ : pS} {p i bs : Int} (h : TP σ T n p) (hi : 0 ≤ i ∧ i < 20) (hb : σ 51 i.toNat = bs) : match sPlN T n bs p with
    | .inl q => ∃ σ', f_Prog_readMove_45_1_p116 i σ = some (1, σ') ∧ TP σ' T n q.2 ∧ FR (Pp i.toNat) σ σ' ∧ σ' 51 i.toNat = q.1.1 ∧ σ' 52 i.toNat = q.1.2
    | .inr f => ∃ σ', f_Prog_readMove_45_1_p116 i σ = some (0, σ') ∧ σ' 1 4 = f ∧ FR (Pp i.toNat) σ σ' := by
  have hm : ∀ k x, Pg 52 i.toNat k x → Pp i.toNat k x := fun k x hk => by unfold Pg at hk; unfold Pp; omega
  have h1 := c_116 h hi
  unfold sPlN
  cases hr : sNum T n 4 p with
  | inr f =>
    rw [hr] at h1
    obtain ⟨σ', a, b, c⟩ := h1
    exact ⟨σ', a, b, c.mono hm⟩
  | inl q =>
    rw [hr] at h1
    obtain ⟨σ', a, b, c, d⟩ := h1
    exact ⟨σ', a, b, c.mono hm, (c.get (by unfold Pg; omega)).trans hb, d.1⟩
theorem c_step {σ : pS} {p : Int} (h : TP σ T n p) (hp : p < n) : f_Tape_step_1 σ = some (0, pU σ 1 3 (p + 1)) ∧ TP (pU σ 1 3 (p + 1)) T n (p + 1) := by
  have h' := h
  obtain ⟨h1, h2, ⟨h3, h4, h5⟩, h6⟩ := h'
  unfold f_Tape_step_1
  rw [h1, pw_id (by omega) (by omega)]
  exact ⟨rfl, h.go (by omega) (by omega)⟩
theorem c_plc {σ : pS} {p i : Int} (h : TP σ T n p) (hT : TB T n) (hi : 0 ≤ i ∧ i < 20) (hb : σ 51 i.toNat = -1) : match sPlc T n p with
    | .inl q => ∃ σ', f_Prog_readMove_45_1_p72 i σ = some (1, σ') ∧ TP σ' T n q.2 ∧ FR (Pp i.toNat) σ σ' ∧ σ' 51 i.toNat = q.1.1 ∧ σ' 52 i.toNat = q.1.2
    | .inr f => ∃ σ', f_Prog_readMove_45_1_p72 i σ = some (0, σ') ∧ σ' 1 4 = f ∧ FR (Pp i.toNat) σ σ' := by
  have h1x : ∀ x, Pp i.toNat 1 x := fun x => Or.inl rfl
  unfold sPlc f_Prog_readMove_45_1_p72
  rw [c_sign h, Option.bind_some]
  dsimp only
  by_cases hc : hd T n p = 114
  · have hp : p < n := hd_in (T := T) (by omega)
    obtain ⟨hs1, hs2⟩ := c_step h hp
    have h1 := c_reg hs2 hT
    rw [if_pos hc, if_pos hc, hs1, Option.bind_some]
    dsimp only
    have hF1 : FR (Pp i.toNat) σ (pU σ 1 3 (p + 1)) := FR.u (Or.inl rfl)
    cases hr : sReg T n (p + 1) with
    | inr f =>
      rw [hr] at h1
      obtain ⟨σ', a, b, c⟩ := h1
      dsimp only
      rw [a, Option.bind_some, if_pos hi, if_pos hi, if_pos (pU_s _ _ _ _)]
      exact ⟨_, rfl, (pU_c _ _ _ _ (by decide)).trans b, (hF1.tr (c.fr h1x)).tr (FR.u (Or.inr ⟨Or.inl rfl, rfl⟩))⟩
    | inl q =>
      rw [hr] at h1
      obtain ⟨σ', a, b, c, d⟩ := h1
      dsimp only at a b d ⊢
      have h2 := c_tak (c := 43) (b.u (k := 51) i.toNat q.1 (by decide) (by decide)) (by decide)
      rw [a, Option.bind_some, if_pos hi, if_pos hi]
      dsimp only
      rw [if_neg (by rw [pU_s]; omega)]
      have hF : FR (Pp i.toNat) σ (pU σ' 51 i.toNat q.1) := (hF1.tr (c.fr h1x)).tr (FR.u (Or.inr ⟨Or.inl rfl, rfl⟩))
      cases ht : sTak T n 43 q.2 with
      | inr f =>
        rw [ht] at h2
        obtain ⟨σ2, a2, b2, c2⟩ := h2
        rw [a2, Option.bind_some]
        exact ⟨σ2, rfl, b2, hF.tr (c2.fr h1x)⟩
      | inl p1 =>
        rw [ht] at h2
        obtain ⟨σ2, a2, b2, c2⟩ := h2
        rw [a2, Option.bind_some]
        dsimp only
        rw [if_neg (by decide)]
        have h3 := c_pln (i := i) (bs := q.1) b2 hi ((c2 _ _ (by decide)).trans (pU_s _ _ _ _))
        cases hq : sPlN T n q.1 p1 with
        | inr f =>
          rw [hq] at h3
          obtain ⟨σ3, a3, b3, c3⟩ := h3
          exact ⟨σ3, a3, b3, (hF.tr (c2.fr h1x)).tr c3⟩
        | inl w =>
          rw [hq] at h3
          obtain ⟨σ3, a3, b3, c3, d3⟩ := h3
          exact ⟨σ3, a3, b3, (hF.tr (c2.fr h1x)).tr c3, d3⟩
  · rw [if_neg hc, if_neg hc]
    exact c_pln h hi hb
def Pm (i : Nat) (k x : Nat) : Prop := k = 1 ∨ (48 ≤ k ∧ k ≤ 52 ∧ x = i)
theorem c_mov {σ : pS} {p i kd : Int} (h : TP σ T n p) (hT : TB T n) (hi : 0 ≤ i ∧ i < 20) (hk : σ 46 i.toNat = kd) (h50 : σ 50 i.toNat = -1) (h51 : σ 51 i.toNat = -1) : match sMov T n p with
    | .inl q => ∃ σ', f_Prog_readMove_45_1 i σ = some (1, σ') ∧ TP σ' T n q.2 ∧ FR (Pm i.toNat) σ σ' ∧ σ' 48 i.toNat = q.1.1 ∧ ((kd = 3 ∧ σ' 49 i.toNat = -1 ∧ σ' 50 i.toNat = q.1.2.1) ∨ (kd ≠ 3 ∧ σ' 49 i.toNat = q.1.2.1 ∧ σ' 50 i.toNat = -1)) ∧ σ' 51 i.toNat = q.1.2.2.1 ∧ σ' 52 i.toNat = q.1.2.2.2
    | .inr f => ∃ σ', f_Prog_readMove_45_1 i σ = some (0, σ') ∧ σ' 1 4 = f ∧ FR (Pm i.toNat) σ σ' := by
  have h1x : ∀ x, Pm i.toNat 1 x := fun x => Or.inl rfl
  have hmg : ∀ k x, Pg 49 i.toNat k x → Pm i.toNat k x := fun k x hk => by unfold Pg at hk; unfold Pm; omega
  have hmp : ∀ k x, Pp i.toNat k x → Pm i.toNat k x := fun k x hk => by unfold Pp at hk; unfold Pm; omega
  unfold sMov f_Prog_readMove_45_1
  rw [c_sign h, Option.bind_some]
  dsimp only
  rw [so_c, Option.bind_some, if_pos hi, if_pos hi]
  dsimp only
  rw [pU_s]
  have hF0 : FR (Pm i.toNat) σ (pU σ 48 i.toNat (so (hd T n p))) := FR.u (Or.inr ⟨by decide, by decide, rfl⟩)
  have h0 := h.u (k := 48) i.toNat (so (hd T n p)) (by decide) (by decide)
  by_cases hz : so (hd T n p) = 0
  · rw [if_pos hz, if_pos hz, c_fail h0 (by omega)]
    exact ⟨pU (pU σ 48 i.toNat (so (hd T n p))) 1 4 (-1000 * 1 - p), rfl, pU_s _ _ _ _, hF0.tr (FR.u (Or.inl rfl))⟩
  · have hp := so_in hz
    obtain ⟨hs1, hs2⟩ := c_step h0 hp
    rw [if_neg hz, if_neg hz, hs1, Option.bind_some]
    dsimp only
    have hF1 : FR (Pm i.toNat) σ (pU (pU σ 48 i.toNat (so (hd T n p))) 1 3 (p + 1)) := hF0.tr (FR.u (Or.inl rfl))
    have h1 := c_giv hs2 hT hi
    cases hr : sGiv T n (p + 1) with
    | inr f =>
      rw [hr] at h1
      obtain ⟨σ', a, b, c⟩ := h1
      dsimp only
      rw [a, Option.bind_some]
      exact ⟨σ', rfl, b, hF1.tr (c.mono hmg)⟩
    | inl q =>
      rw [hr] at h1
      obtain ⟨σ', a, b, c, d, e⟩ := h1
      dsimp only at a b d e ⊢
      rw [a, Option.bind_some]
      dsimp only
      have g : ∀ k, k ≠ 1 → k ≠ 48 → k ≠ 49 → σ' k i.toNat = σ k i.toNat := fun k h1 h2 h3 => (c.get (by unfold Pg; omega)).trans ((pU_c _ _ _ _ h1).trans (pU_c _ _ _ _ h2))
      have g48 : σ' 48 i.toNat = so (hd T n p) := (c.get (by unfold Pg; omega)).trans ((pU_c _ _ _ _ (by decide)).trans (pU_s _ _ _ _))
      have hF2 : FR (Pm i.toNat) σ σ' := hF1.tr (c.mono hmg)
      have hk9 : σ' 46 i.toNat = kd := (g 46 (by decide) (by decide) (by decide)).trans hk
      rw [if_neg (by decide), if_pos hi]
      by_cases hk3 : kd = 3
      · rw [if_pos (hk9.trans hk3), if_pos hi, if_pos hi, if_pos hi]
        have h3 := c_plc (i := i) (((b.u (k := 50) i.toNat (σ' 49 i.toNat) (by decide) (by decide)).u (k := 49) i.toNat (-1) (by decide) (by decide))) hT hi (((pU_c _ _ _ _ (by decide)).trans ((pU_c _ _ _ _ (by decide)).trans (g 51 (by decide) (by decide) (by decide)))).trans h51)
        have hF3 : FR (Pm i.toNat) σ (pU (pU σ' 50 i.toNat (σ' 49 i.toNat)) 49 i.toNat (-1)) := (hF2.tr (FR.u (Or.inr ⟨by decide, by decide, rfl⟩))).tr (FR.u (Or.inr ⟨by decide, by decide, rfl⟩))
        cases hq : sPlc T n q.2 with
        | inr f =>
          rw [hq] at h3
          obtain ⟨σ3, a3, b3, c3⟩ := h3
          exact ⟨σ3, a3, b3, hF3.tr (c3.mono hmp)⟩
        | inl w =>
          rw [hq] at h3
          obtain ⟨σ3, a3, b3, c3, d3, e3⟩ := h3
          refine ⟨σ3, a3, b3, hF3.tr (c3.mono hmp), ?_, Or.inl ⟨hk3, ?_, ?_⟩, d3, e3⟩
          · exact (c3.get (by unfold Pp; omega)).trans (((pU_c _ _ _ _ (by decide)).trans (pU_c _ _ _ _ (by decide))).trans g48)
          · exact (c3.get (by unfold Pp; omega)).trans (pU_s _ _ _ _)
          · exact (c3.get (by unfold Pp; omega)).trans (((pU_c _ _ _ _ (by decide)).trans (pU_s _ _ _ _)).trans d)
      · rw [if_neg (fun e => hk3 (hk9.symm.trans e))]
        have h3 := c_plc (i := i) b hT hi ((g 51 (by decide) (by decide) (by decide)).trans h51)
        cases hq : sPlc T n q.2 with
        | inr f =>
          rw [hq] at h3
          obtain ⟨σ3, a3, b3, c3⟩ := h3
          exact ⟨σ3, a3, b3, hF2.tr (c3.mono hmp)⟩
        | inl w =>
          rw [hq] at h3
          obtain ⟨σ3, a3, b3, c3, d3, e3⟩ := h3
          refine ⟨σ3, a3, b3, hF2.tr (c3.mono hmp), ?_, Or.inr ⟨hk3, ?_, ?_⟩, d3, e3⟩
          · exact (c3.get (by unfold Pp; omega)).trans g48
          · exact (c3.get (by unfold Pp; omega)).trans d
          · exact (c3.get (by unfold Pp; omega)).trans ((g 50 (by decide) (by decide) (by decide)).trans h50)
theorem c_rck {σ : pS} {p i : Int} (h : TP σ T n p) (hT : TB T n) (hi : 0 ≤ i ∧ i < 20) : match sGiv T n p with
    | .inr f => ∃ σ', f_Prog_readReckoning_45_1 i σ = some (0, σ') ∧ σ' 1 4 = f ∧ FR (Pm i.toNat) σ σ'
    | .inl q => (match sReg T n q.2 with
      | .inr f => ∃ σ', f_Prog_readReckoning_45_1 i σ = some (0, σ') ∧ σ' 1 4 = f ∧ FR (Pm i.toNat) σ σ'
      | .inl a => (match sTak T n 44 a.2 with
        | .inr f => ∃ σ', f_Prog_readReckoning_45_1 i σ = some (0, σ') ∧ σ' 1 4 = f ∧ FR (Pm i.toNat) σ σ'
        | .inl p1 => (match sReg T n p1 with
          | .inr f => ∃ σ', f_Prog_readReckoning_45_1 i σ = some (0, σ') ∧ σ' 1 4 = f ∧ FR (Pm i.toNat) σ σ'
          | .inl b => ∃ σ', f_Prog_readReckoning_45_1 i σ = some (1, σ') ∧ TP σ' T n b.2 ∧ FR (Pm i.toNat) σ σ' ∧ σ' 48 i.toNat = σ 48 i.toNat ∧ σ' 49 i.toNat = q.1 ∧ σ' 50 i.toNat = a.1 ∧ σ' 51 i.toNat = b.1 ∧ σ' 52 i.toNat = σ 52 i.toNat))) := by
  have h1x : ∀ x, Pm i.toNat 1 x := fun x => Or.inl rfl
  have hmg : ∀ k x, Pg 49 i.toNat k x → Pm i.toNat k x := fun k x hk => by unfold Pg at hk; unfold Pm; omega
  unfold f_Prog_readReckoning_45_1
  have h1 := c_giv h hT hi
  cases hr : sGiv T n p with
  | inr f =>
    rw [hr] at h1
    obtain ⟨σ', a, b, c⟩ := h1
    dsimp only
    rw [a, Option.bind_some]
    exact ⟨σ', rfl, b, c.mono hmg⟩
  | inl q =>
    rw [hr] at h1
    obtain ⟨σ1, a1, b1, c1, d1, e1⟩ := h1
    dsimp only at a1 b1 d1 ⊢
    rw [a1, Option.bind_some]
    dsimp only
    rw [if_neg (by decide)]
    have h2 := c_reg b1 hT
    cases hr2 : sReg T n q.2 with
    | inr f =>
      rw [hr2] at h2
      obtain ⟨σ2, a2, b2, c2⟩ := h2
      dsimp only
      rw [a2, Option.bind_some, if_pos hi, if_pos hi, if_pos (pU_s _ _ _ _)]
      exact ⟨_, rfl, (pU_c _ _ _ _ (by decide)).trans b2, ((c1.mono hmg).tr (c2.fr h1x)).tr (FR.u (Or.inr ⟨by decide, by decide, rfl⟩))⟩
    | inl u =>
      rw [hr2] at h2
      obtain ⟨σ2, a2, b2, c2, d2⟩ := h2
      dsimp only at a2 b2 d2 ⊢
      rw [a2, Option.bind_some, if_pos hi, if_pos hi]
      dsimp only
      rw [if_neg (by rw [pU_s]; omega)]
      have h3 := c_tak (c := 44) (b2.u (k := 50) i.toNat u.1 (by decide) (by decide)) (by decide)
      have hF2 : FR (Pm i.toNat) σ (pU σ2 50 i.toNat u.1) := ((c1.mono hmg).tr (c2.fr h1x)).tr (FR.u (Or.inr ⟨by decide, by decide, rfl⟩))
      cases hr3 : sTak T n 44 u.2 with
      | inr f =>
        rw [hr3] at h3
        obtain ⟨σ3, a3, b3, c3⟩ := h3
        dsimp only
        rw [a3, Option.bind_some]
        exact ⟨σ3, rfl, b3, hF2.tr (c3.fr h1x)⟩
      | inl p1 =>
        rw [hr3] at h3
        obtain ⟨σ3, a3, b3, c3⟩ := h3
        dsimp only
        rw [a3, Option.bind_some]
        dsimp only
        rw [if_neg (by decide)]
        have h4 := c_reg b3 hT
        cases hr4 : sReg T n p1 with
        | inr f =>
          rw [hr4] at h4
          obtain ⟨σ4, a4, b4, c4⟩ := h4
          dsimp only
          rw [a4, Option.bind_some, if_pos hi, if_pos hi, if_pos (pU_s _ _ _ _)]
          exact ⟨_, rfl, (pU_c _ _ _ _ (by decide)).trans b4, ((hF2.tr (c3.fr h1x)).tr (c4.fr h1x)).tr (FR.u (Or.inr ⟨by decide, by decide, rfl⟩))⟩
        | inl w =>
          rw [hr4] at h4
          obtain ⟨σ4, a4, b4, c4, d4⟩ := h4
          dsimp only at a4 b4 d4 ⊢
          rw [a4, Option.bind_some, if_pos hi, if_pos hi]
          dsimp only
          rw [if_neg (by rw [pU_s]; omega)]
          have g : ∀ k, k ≠ 1 → k ≠ 50 → k ≠ 51 → pU σ4 51 i.toNat w.1 k i.toNat = σ1 k i.toNat := fun k h1 h2 h3 => (pU_c _ _ _ _ h3).trans ((c4 _ _ h1).trans ((c3 _ _ h1).trans ((pU_c _ _ _ _ h2).trans (c2 _ _ h1))))
          refine ⟨_, rfl, b4.u _ _ (by decide) (by decide), ((hF2.tr (c3.fr h1x)).tr (c4.fr h1x)).tr (FR.u (Or.inr ⟨by decide, by decide, rfl⟩)), ?_, ?_, ?_, pU_s _ _ _ _, ?_⟩
          · exact (g 48 (by decide) (by decide) (by decide)).trans (c1.get (by unfold Pg; omega))
          · exact (g 49 (by decide) (by decide) (by decide)).trans d1
          · exact (pU_c _ _ _ _ (by decide)).trans ((c4 _ _ (by decide)).trans ((c3 _ _ (by decide)).trans (pU_s _ _ _ _)))
          · exact (g 52 (by decide) (by decide) (by decide)).trans (c1.get (by unfold Pg; omega))
end CP
def CR (σ : pS) (i : Nat) (r : O8) : Prop := σ 46 i = r.1 ∧ σ 47 i = r.2.1 ∧ σ 48 i = r.2.2.1 ∧ ((r.1 = 3 ∧ σ 49 i = -1 ∧ σ 50 i = r.2.2.2.1) ∨ (r.1 ≠ 3 ∧ σ 49 i = r.2.2.2.1 ∧ σ 50 i = r.2.2.2.2.1)) ∧ ((r.1 = 1 ∧ σ 51 i = r.2.2.2.2.2.1) ∨ (r.1 ≠ 1 ∧ σ 51 i = r.2.2.2.2.2.2.1)) ∧ σ 52 i = r.2.2.2.2.2.2.2
def MR (τ : pS) (i : Nat) (r : O8) : Prop := τ 110 i = r.1 ∧ τ 111 i = r.2.1 ∧ τ 112 i = r.2.2.2.1 ∧ (r.1 = 1 → τ 113 i = r.2.2.2.2.1 ∧ τ 114 i = r.2.2.2.2.2.1) ∧ (2 ≤ r.1 → τ 115 i = r.2.2.1 ∧ τ 116 i = r.2.2.2.2.2.2.1) ∧ (r.1 ≠ 1 → τ 117 i = r.2.2.2.2.2.2.2)
def Pc (i : Nat) (k x : Nat) : Prop := k = 1 ∨ (46 ≤ k ∧ k ≤ 52 ∧ x = i)
section CO5
variable {T : Nat → Int} {n : Int}
theorem c_op {σ : pS} {p i : Int} (h : TP σ T n p) (hT : TB T n) (hi : 0 ≤ i ∧ i < 20) : match sOp T n p with
    | .inl q => ∃ σ', f_Prog_readOp_45_1 i σ = some (1, σ') ∧ TP σ' T n q.2 ∧ FR (Pc i.toNat) σ σ' ∧ CR σ' i.toNat q.1
    | .inr f => ∃ σ', f_Prog_readOp_45_1 i σ = some (0, σ') ∧ σ' 1 4 = f ∧ FR (Pc i.toNat) σ σ' := by
  have hmm : ∀ k x, Pm i.toNat k x → Pc i.toNat k x := fun k x hk => by unfold Pm at hk; unfold Pc; omega
  have hmg : ∀ c, 46 ≤ c → c ≤ 52 → ∀ k x, Pg c i.toNat k x → Pc i.toNat k x := fun c h1 h2 k x hk => by unfold Pg at hk; unfold Pc; omega
  unfold sOp f_Prog_readOp_45_1
  rw [c_sign h, Option.bind_some]
  dsimp only
  rw [ko_c, Option.bind_some]
  dsimp only
  by_cases hk : ko (hd T n p) = -1
  · rw [if_pos hk, if_pos hk, c_fail h (by omega)]
    exact ⟨pU σ 1 4 (-1000 * 1 - p), rfl, pU_s _ _ _ _, FR.u (Or.inl rfl)⟩
  · have hp := ko_in hk
    obtain ⟨hs1, hs2⟩ := c_step h hp
    rw [if_neg hk, if_neg hk, if_pos hi.2, hs1, Option.bind_some, if_pos hi, if_pos hi, if_pos hi, if_pos hi, if_pos hi, if_pos hi]
    dsimp only
    generalize hσ1 : pU (pU (pU (pU (pU (pU (pU σ 1 3 (p + 1)) 47 i.toNat (hd T n p)) 46 i.toNat (ko (hd T n p))) 48 i.toNat 0) 50 i.toNat (-1)) 51 i.toNat (-1)) 52 i.toNat 0 = σ1
    have hT1 : TP σ1 T n (p + 1) := by
      rw [← hσ1]
      exact (((((hs2.u _ _ (by decide) (by decide)).u _ _ (by decide) (by decide)).u _ _ (by decide) (by decide)).u _ _ (by decide) (by decide)).u _ _ (by decide) (by decide)).u _ _ (by decide) (by decide)
    have hF1 : FR (Pc i.toNat) σ σ1 := by
      rw [← hσ1]
      exact ((((((FR.u (Or.inl rfl)).tr (FR.u (Or.inr ⟨by decide, by decide, rfl⟩))).tr (FR.u (Or.inr ⟨by decide, by decide, rfl⟩))).tr (FR.u (Or.inr ⟨by decide, by decide, rfl⟩))).tr (FR.u (Or.inr ⟨by decide, by decide, rfl⟩))).tr (FR.u (Or.inr ⟨by decide, by decide, rfl⟩))).tr (FR.u (Or.inr ⟨by decide, by decide, rfl⟩))
    have e47 : σ1 47 i.toNat = hd T n p := by rw [← hσ1]; simp [pU]
    have e46 : σ1 46 i.toNat = ko (hd T n p) := by rw [← hσ1]; simp [pU]
    have e48 : σ1 48 i.toNat = 0 := by rw [← hσ1]; simp [pU]
    have e50 : σ1 50 i.toNat = -1 := by rw [← hσ1]; simp [pU]
    have e51 : σ1 51 i.toNat = -1 := by rw [← hσ1]; simp [pU]
    have e52 : σ1 52 i.toNat = 0 := by rw [← hσ1]; simp [pU]
    by_cases hk0 : ko (hd T n p) = 0
    · rw [if_pos hk0, if_pos hk0]
      unfold sOp0
      have h1 := c_giv hT1 hT hi
      cases hr : sGiv T n (p + 1) with
      | inr f =>
        rw [hr] at h1
        obtain ⟨σ2, a2, b2, c2⟩ := h1
        dsimp only
        rw [a2, Option.bind_some]
        exact ⟨σ2, rfl, b2, hF1.tr (c2.mono (hmg 49 (by decide) (by decide)))⟩
      | inl q =>
        rw [hr] at h1
        obtain ⟨σ2, a2, b2, c2, d2, e2⟩ := h1
        dsimp only at a2 b2 d2 ⊢
        rw [a2, Option.bind_some]
        dsimp only
        rw [if_neg (by decide)]
        have hF2 := hF1.tr (c2.mono (hmg 49 (by decide) (by decide)))
        have h3 := c_nmb b2 hi
        cases hq : sNum T n 4 q.2 with
        | inr f =>
          rw [hq] at h3
          obtain ⟨σ3, a3, b3, c3⟩ := h3
          dsimp only
          rw [a3, Option.bind_some]
          exact ⟨σ3, rfl, b3, hF2.tr (c3.mono (hmg 52 (by decide) (by decide)))⟩
        | inl w =>
          rw [hq] at h3
          obtain ⟨σ3, a3, b3, c3, d3, e3⟩ := h3
          dsimp only at b3 d3 ⊢
          rw [a3, Option.bind_some]
          have g : ∀ k, k ≠ 1 → k ≠ 49 → k ≠ 52 → σ3 k i.toNat = σ1 k i.toNat := fun k h1 h2 h3 => (c3.get (by unfold Pg; omega)).trans (c2.get (by unfold Pg; omega))
          refine ⟨σ3, rfl, b3, hF2.tr (c3.mono (hmg 52 (by decide) (by decide))), ?_⟩
          unfold CR
          dsimp only
          refine ⟨(g 46 (by decide) (by decide) (by decide)).trans (e46.trans hk0), (g 47 (by decide) (by decide) (by decide)).trans e47, (g 48 (by decide) (by decide) (by decide)).trans e48, Or.inr ⟨by decide, (c3.get (by unfold Pg; omega)).trans d2, (g 50 (by decide) (by decide) (by decide)).trans e50⟩, Or.inr ⟨by decide, (g 51 (by decide) (by decide) (by decide)).trans e51⟩, d3⟩
    · rw [if_neg hk0, if_neg hk0]
      by_cases hk1 : ko (hd T n p) = 1
      · rw [if_pos hk1, if_pos hk1]
        unfold sOp1
        have h1 := c_rck hT1 hT hi
        cases hr : sGiv T n (p + 1) with
        | inr f =>
          rw [hr] at h1
          obtain ⟨σ2, a2, b2, c2⟩ := h1
          dsimp only
          rw [a2, Option.bind_some]
          exact ⟨σ2, rfl, b2, hF1.tr (c2.mono hmm)⟩
        | inl q =>
          rw [hr] at h1
          dsimp only at h1 ⊢
          cases hr2 : sReg T n q.2 with
          | inr f =>
            rw [hr2] at h1
            obtain ⟨σ2, a2, b2, c2⟩ := h1
            dsimp only
            rw [a2, Option.bind_some]
            exact ⟨σ2, rfl, b2, hF1.tr (c2.mono hmm)⟩
          | inl u =>
            rw [hr2] at h1
            dsimp only at h1 ⊢
            cases hr3 : sTak T n 44 u.2 with
            | inr f =>
              rw [hr3] at h1
              obtain ⟨σ2, a2, b2, c2⟩ := h1
              dsimp only
              rw [a2, Option.bind_some]
              exact ⟨σ2, rfl, b2, hF1.tr (c2.mono hmm)⟩
            | inl p1 =>
              rw [hr3] at h1
              dsimp only at h1 ⊢
              cases hr4 : sReg T n p1 with
              | inr f =>
                rw [hr4] at h1
                obtain ⟨σ2, a2, b2, c2⟩ := h1
                dsimp only
                rw [a2, Option.bind_some]
                exact ⟨σ2, rfl, b2, hF1.tr (c2.mono hmm)⟩
              | inl w =>
                rw [hr4] at h1
                obtain ⟨σ2, a2, b2, c2, d1, d2, d3, d4, d5⟩ := h1
                dsimp only
                rw [a2, Option.bind_some]
                refine ⟨σ2, rfl, b2, hF1.tr (c2.mono hmm), ?_⟩
                unfold CR
                dsimp only
                exact ⟨(c2.get (by unfold Pm; omega)).trans (e46.trans hk1), (c2.get (by unfold Pm; omega)).trans e47, d1.trans e48, Or.inr ⟨by decide, d2, d3⟩, Or.inl ⟨rfl, d4⟩, d5.trans e52⟩
      · rw [if_neg hk1, if_neg hk1]
        unfold sOp2
        have h1 := c_mov hT1 hT hi e46 e50 e51
        cases hr : sMov T n (p + 1) with
        | inr f =>
          rw [hr] at h1
          obtain ⟨σ2, a2, b2, c2⟩ := h1
          dsimp only
          rw [a2, Option.bind_some]
          exact ⟨σ2, rfl, b2, hF1.tr (c2.mono hmm)⟩
        | inl w =>
          rw [hr] at h1
          obtain ⟨σ2, a2, b2, c2, d1, d2, d3, d4⟩ := h1
          dsimp only at d1 d2 d3 d4 ⊢
          rw [a2, Option.bind_some]
          refine ⟨σ2, rfl, b2, hF1.tr (c2.mono hmm), ?_⟩
          unfold CR
          dsimp only
          exact ⟨(c2.get (by unfold Pm; omega)).trans e46, (c2.get (by unfold Pm; omega)).trans e47, d1, d2, Or.inr ⟨hk1, d3⟩, d4⟩
theorem c_op20 {σ : pS} {p : Int} (h : TP σ T n p) : ∃ σ', f_Prog_readOp_45_1 20 σ = some (0, σ') ∧ σ' 1 4 = (if ko (hd T n p) = -1 then -1000 * 1 - p else -1000 * 4 - p) ∧ CO σ σ' := by
  unfold f_Prog_readOp_45_1
  rw [c_sign h, Option.bind_some]
  dsimp only
  rw [ko_c, Option.bind_some]
  dsimp only
  by_cases hk : ko (hd T n p) = -1
  · rw [if_pos hk, if_pos hk, c_fail h (by omega)]
    exact ⟨pU σ 1 4 (-1000 * 1 - p), rfl, pU_s _ _ _ _, CO.u _ _⟩
  · rw [if_neg hk, if_neg hk, if_neg (by decide), c_fail h (by omega)]
    exact ⟨pU σ 1 4 (-1000 * 4 - p), rfl, pU_s _ _ _ _, CO.u _ _⟩
/-- the reference -/
def Qp (i : Nat) (k x : Nat) : Prop := (k = 84 ∧ (x = 19 ∨ x = 21 ∨ x = 22)) ∨ ((k = 116 ∨ k = 117) ∧ x = i)
theorem m_p56 {τ : pS} {p i bs : Int} (h : TM τ T n p) (hi : 0 ≤ i ∧ i < 20) (hb : τ 116 i.toNat = bs) : match sPlN T n bs p with
    | .inl q => ∃ τ', f_M_readsPlace_84_p56 i τ = some (1, τ') ∧ TM τ' T n q.2 ∧ FR (Qp i.toNat) τ τ' ∧ τ' 116 i.toNat = q.1.1 ∧ τ' 117 i.toNat = q.1.2
    | .inr f => ∃ τ', f_M_readsPlace_84_p56 i τ = some (0, τ') ∧ τ' 84 21 = f ∧ FR (Qp i.toNat) τ τ' := by
  unfold sPlN f_M_readsPlace_84_p56
  have h1 := m_num h
  cases hr : sNum T n 4 p with
  | inr f =>
    rw [hr] at h1
    obtain ⟨τ', a, b, c⟩ := h1
    dsimp only
    rw [a, Option.bind_some]
    exact ⟨τ', rfl, b, c.fr (Or.inl (by decide)) (Or.inl (by decide)) (Or.inl (by decide))⟩
  | inl q =>
    rw [hr] at h1
    obtain ⟨τ', a, b, c, d⟩ := h1
    dsimp only at b d ⊢
    rw [a, Option.bind_some]
    dsimp only
    rw [if_neg (by decide), if_pos hi]
    exact ⟨_, rfl, b.u _ _ (by decide) (by decide), (c.fr (Or.inl (by decide)) (Or.inl (by decide)) (Or.inl (by decide))).tr (FR.u (Or.inr ⟨Or.inr rfl, rfl⟩)), (pU_c _ _ _ _ (by decide)).trans ((c.1 _ _ (by decide)).trans hb), (pU_s _ _ _ _).trans d⟩
theorem m_plc {τ : pS} {p i : Int} (h : TM τ T n p) (hi : 0 ≤ i ∧ i < 20) : match sPlc T n p with
    | .inl q => ∃ τ', f_M_readsPlace_84 i τ = some (1, τ') ∧ TM τ' T n q.2 ∧ FR (Qp i.toNat) τ τ' ∧ τ' 116 i.toNat = q.1.1 ∧ τ' 117 i.toNat = q.1.2
    | .inr f => ∃ τ', f_M_readsPlace_84 i τ = some (0, τ') ∧ τ' 84 21 = f ∧ FR (Qp i.toNat) τ τ' := by
  unfold sPlc f_M_readsPlace_84
  have h0 := h.u (k := 116) i.toNat (-1) (by decide) (by decide)
  have hF0 : FR (Qp i.toNat) τ (pU τ 116 i.toNat (-1)) := FR.u (Or.inr ⟨Or.inl rfl, rfl⟩)
  rw [if_pos hi, m_here h0, Option.bind_some]
  dsimp only
  have h0' := h0
  obtain ⟨h1, h2, ⟨h3, h4, h5⟩, h6⟩ := h0'
  by_cases hc : hd T n p = 114
  · have hp : p < n := hd_in (T := T) (by omega)
    have hg : TM (pU (pU τ 116 i.toNat (-1)) 84 19 (p + 1)) T n (p + 1) := h0.at (pU_s _ _ _ _) (pU_i _ _ _ _ (by decide)) (fun i => pU_c _ _ _ _ (by decide)) (by omega) (by omega)
    have hF1 : FR (Qp i.toNat) τ (pU (pU τ 116 i.toNat (-1)) 84 19 (p + 1)) := hF0.tr (FR.u (Or.inl (by decide)))
    rw [if_pos hc, if_pos hc, h1, pw_id (by omega) (by omega)]
    have h7 := m_reg hg
    cases hr : sReg T n (p + 1) with
    | inr f =>
      rw [hr] at h7
      obtain ⟨τ', a, b, c⟩ := h7
      dsimp only
      rw [a, Option.bind_some]
      exact ⟨τ', rfl, b, hF1.tr (c.fr (Or.inl (by decide)) (Or.inl (by decide)) (Or.inl (by decide)))⟩
    | inl q =>
      rw [hr] at h7
      obtain ⟨τ', a, b, c, d⟩ := h7
      dsimp only at b d ⊢
      rw [a, Option.bind_some]
      dsimp only
      rw [if_neg (by decide), if_pos hi, d]
      have h8 := m_tak (c := 43) (b.u (k := 116) i.toNat q.1 (by decide) (by decide)) (by decide)
      have hF2 : FR (Qp i.toNat) τ (pU τ' 116 i.toNat q.1) := (hF1.tr (c.fr (Or.inl (by decide)) (Or.inl (by decide)) (Or.inl (by decide)))).tr (FR.u (Or.inr ⟨Or.inl rfl, rfl⟩))
      cases ht : sTak T n 43 q.2 with
      | inr f =>
        rw [ht] at h8
        obtain ⟨τ2, a2, b2, c2⟩ := h8
        dsimp only
        rw [a2, Option.bind_some]
        exact ⟨τ2, rfl, b2, hF2.tr (c2.fr (Or.inl (by decide)) (Or.inl (by decide)) (Or.inl (by decide)))⟩
      | inl p1 =>
        rw [ht] at h8
        obtain ⟨τ2, a2, b2, c2⟩ := h8
        dsimp only
        rw [a2, Option.bind_some]
        dsimp only
        rw [if_neg (by decide)]
        have h9 := m_p56 (i := i) (bs := q.1) b2 hi ((c2.1 _ _ (by decide)).trans (pU_s _ _ _ _))
        have hF3 := hF2.tr (c2.fr (Or.inl (by decide)) (Or.inl (by decide)) (Or.inl (by decide)))
        cases hq : sPlN T n q.1 p1 with
        | inr f =>
          rw [hq] at h9
          obtain ⟨τ3, a3, b3, c3⟩ := h9
          exact ⟨τ3, a3, b3, hF3.tr c3⟩
        | inl w =>
          rw [hq] at h9
          obtain ⟨τ3, a3, b3, c3, d3⟩ := h9
          exact ⟨τ3, a3, b3, hF3.tr c3, d3⟩
  · rw [if_neg hc, if_neg hc]
    have h9 := m_p56 (i := i) h0 hi (pU_s _ _ _ _)
    cases hq : sPlN T n (-1) p with
    | inr f =>
      rw [hq] at h9
      obtain ⟨τ3, a3, b3, c3⟩ := h9
      exact ⟨τ3, a3, b3, hF0.tr c3⟩
    | inl w =>
      rw [hq] at h9
      obtain ⟨τ3, a3, b3, c3, d3⟩ := h9
      exact ⟨τ3, a3, b3, hF0.tr c3, d3⟩
end CO5
