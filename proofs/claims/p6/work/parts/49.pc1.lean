theorem pw_id {z : Int} (h1 : -2147483648 ≤ z) (h2 : z < 2147483648) : pw z = z := Int.bmod_eq_of_le (by omega) (by omega)
theorem pU_s (σ : pS) (j i : Nat) (v : Int) : pU σ j i v j i = v := if_pos ⟨rfl, rfl⟩
theorem pU_c (σ : pS) {j k : Nat} (i : Nat) (v : Int) (x : Nat) (h : k ≠ j) : pU σ j i v k x = σ k x := if_neg (fun e => h e.1)
theorem pU_i (σ : pS) (j : Nat) {i x : Nat} (v : Int) (k : Nat) (h : x ≠ i) : pU σ j i v k x = σ k x := if_neg (fun e => h e.2)
/-- the text's signs -/
def hd (T : Nat → Int) (n p : Int) : Int := if p < n then T p.toNat else -1
def TB (T : Nat → Int) (n : Int) : Prop := ∀ i : Nat, (i : Int) < n → 0 ≤ T i ∧ T i ≤ 255
def TP (σ : pS) (T : Nat → Int) (n p : Int) : Prop := σ 1 3 = p ∧ σ 1 2 = n ∧ (0 ≤ p ∧ p ≤ n ∧ n ≤ 240) ∧ ∀ i : Nat, (i : Int) < n → σ 2 i = T i
def TM (τ : pS) (T : Nat → Int) (n p : Int) : Prop := τ 84 19 = p ∧ τ 84 20 = n ∧ (0 ≤ p ∧ p ≤ n ∧ n ≤ 240) ∧ ∀ i : Nat, (i : Int) < n → pAnd (τ 96 i) 255 = T i
theorem hd_in {T : Nat → Int} {n p : Int} (h : hd T n p ≠ -1) : p < n := by
  unfold hd at h
  by_cases hp : p < n
  · exact hp
  · rw [if_neg hp] at h
    exact absurd rfl h
theorem hd_rng {T : Nat → Int} {n p : Int} (hT : TB T n) (hp : 0 ≤ p) : -1 ≤ hd T n p ∧ hd T n p ≤ 255 := by
  unfold hd
  by_cases h : p < n
  · rw [if_pos h]
    have := hT p.toNat (by omega)
    omega
  · rw [if_neg h]
    omega
/-- nothing but the tape's cell has changed -/
def CO (σ σ' : pS) : Prop := ∀ k x, k ≠ 1 → σ' k x = σ k x
/-- nothing of the reference has changed but place, fault, number -/
def MO (τ τ' : pS) : Prop := (∀ k x, k ≠ 84 → τ' k x = τ k x) ∧ ∀ x, x ≠ 19 → x ≠ 21 → x ≠ 22 → τ' 84 x = τ 84 x
theorem CO.rf (σ : pS) : CO σ σ := fun _ _ _ => rfl
theorem CO.tr {a b c : pS} (h1 : CO a b) (h2 : CO b c) : CO a c := fun k x h => (h2 k x h).trans (h1 k x h)
theorem MO.rf (σ : pS) : MO σ σ := ⟨fun _ _ _ => rfl, fun _ _ _ _ => rfl⟩
theorem MO.tr {a b c : pS} (h1 : MO a b) (h2 : MO b c) : MO a c := ⟨fun k x h => (h2.1 k x h).trans (h1.1 k x h), fun x a b c => (h2.2 x a b c).trans (h1.2 x a b c)⟩
section TPs
variable {σ τ : pS} {T : Nat → Int} {n p : Int}
theorem TP.go (h : TP σ T n p) {q : Int} (h0 : 0 ≤ q) (h1 : q ≤ n) : TP (pU σ 1 3 q) T n q := by
  obtain ⟨a, b, c, d⟩ := h
  refine ⟨pU_s _ _ _ _, (pU_i _ _ _ _ (by decide)).trans b, ⟨h0, h1, c.2.2⟩, fun i hi => (pU_c _ _ _ _ (by decide)).trans (d i hi)⟩
theorem TP.at (h : TP σ T n p) {σ' : pS} {q : Int} (h3 : σ' 1 3 = q) (h2 : σ' 1 2 = σ 1 2) (hb : ∀ i, σ' 2 i = σ 2 i) (h0 : 0 ≤ q) (h1 : q ≤ n) : TP σ' T n q := by
  obtain ⟨a, b, c, d⟩ := h
  exact ⟨h3, h2.trans b, ⟨h0, h1, c.2.2⟩, fun i hi => (hb i).trans (d i hi)⟩
theorem TM.at (h : TM τ T n p) {τ' : pS} {q : Int} (h3 : τ' 84 19 = q) (h2 : τ' 84 20 = τ 84 20) (hb : ∀ i, τ' 96 i = τ 96 i) (h0 : 0 ≤ q) (h1 : q ≤ n) : TM τ' T n q := by
  obtain ⟨a, b, c, d⟩ := h
  exact ⟨h3, h2.trans b, ⟨h0, h1, c.2.2⟩, fun i hi => by rw [hb i]; exact d i hi⟩
theorem CO.u (i : Nat) (v : Int) : CO σ (pU σ 1 i v) := fun k x h => pU_c _ _ _ _ h
theorem MO.u {i : Nat} (v : Int) (h : i = 19 ∨ i = 21 ∨ i = 22) : MO τ (pU τ 84 i v) := ⟨fun k x h => pU_c _ _ _ _ h, fun x a b c => pU_i _ _ _ _ (by omega)⟩
theorem c_sign (h : TP σ T n p) : f_Tape_sign_1 σ = some (hd T n p, σ) := by
  obtain ⟨h1, h2, ⟨h3, h4, h5⟩, h6⟩ := h
  unfold f_Tape_sign_1 hd
  rw [h1, h2, if_neg (by omega)]
  by_cases hp : n ≤ p
  · rw [if_pos hp, if_neg (by omega)]
  · rw [if_neg hp, if_neg (by omega), if_pos (by omega), if_pos (by omega), h6 p.toNat (by omega)]
theorem m_here (h : TM τ T n p) : f_M_here_84 τ = some (hd T n p, τ) := by
  obtain ⟨h1, h2, ⟨h3, h4, h5⟩, h6⟩ := h
  unfold f_M_here_84 hd
  rw [h1, h2]
  by_cases hp : n ≤ p
  · rw [if_pos hp, if_neg (by omega)]
  · rw [if_neg hp, if_pos (by omega), if_pos (by omega), h6 p.toNat (by omega)]
theorem ft_eq {k p : Int} (hk : 0 ≤ k ∧ k ≤ 9) (hp : 0 ≤ p ∧ p ≤ 1000) : pw (pw ((-1000) * k) - p) = -1000 * k - p := by
  rw [pw_id (z := (-1000) * k) (by omega) (by omega), pw_id (by omega) (by omega)]
theorem c_fail (h : TP σ T n p) {k : Int} (hk : 0 ≤ k ∧ k ≤ 9) : f_Tape_fail_1 k σ = some (0, pU σ 1 4 (-1000 * k - p)) := by
  obtain ⟨h1, h2, ⟨h3, h4, h5⟩, h6⟩ := h
  unfold f_Tape_fail_1
  rw [h1, ft_eq hk (by omega)]
theorem m_wrong {k p : Int} (hk : 0 ≤ k ∧ k ≤ 9) (hp : 0 ≤ p ∧ p ≤ 1000) : f_M_wrongAt_84 k p τ = some (0, pU τ 84 21 (-1000 * k - p)) := by
  unfold f_M_wrongAt_84
  rw [ft_eq hk hp]
theorem c_acc1 (h : TP σ T n p) {c : Int} (hc : hd T n p = c) (h0 : c ≠ -1) : ∃ σ', f_Tape_accept_1 c σ = some (1, σ') ∧ TP σ' T n (p + 1) ∧ CO σ σ' := by
  have hp := hd_in (hc ▸ h0)
  have h' := h
  obtain ⟨h1, h2, ⟨h3, h4, h5⟩, h6⟩ := h'
  refine ⟨pU σ 1 3 (p + 1), ?_, h.go (by omega) (by omega), CO.u _ _⟩
  unfold f_Tape_accept_1
  rw [c_sign h]
  dsimp only [Option.bind]
  rw [if_pos hc, h1, pw_id (by omega) (by omega)]
theorem c_acc0 (h : TP σ T n p) {c : Int} (hc : hd T n p ≠ c) : ∃ σ', f_Tape_accept_1 c σ = some (0, σ') ∧ σ' 1 4 = -1000 * 1 - p ∧ CO σ σ' := by
  refine ⟨pU σ 1 4 (-1000 * 1 - p), ?_, pU_s _ _ _ _, CO.u _ _⟩
  unfold f_Tape_accept_1
  rw [c_sign h]
  dsimp only [Option.bind]
  rw [if_neg hc, c_fail h (by omega)]
  rfl
theorem m_tak1 (h : TM τ T n p) {c : Int} (hc : hd T n p = c) (h0 : c ≠ -1) : ∃ τ', f_M_takes_84 c τ = some (1, τ') ∧ TM τ' T n (p + 1) ∧ MO τ τ' := by
  have hp := hd_in (hc ▸ h0)
  have h' := h
  obtain ⟨h1, h2, ⟨h3, h4, h5⟩, h6⟩ := h'
  refine ⟨pU τ 84 19 (p + 1), ?_, h.at (pU_s _ _ _ _) (pU_i _ _ _ _ (by decide)) (fun i => pU_c _ _ _ _ (by decide)) (by omega) (by omega), MO.u _ (by omega)⟩
  unfold f_M_takes_84
  rw [m_here h]
  dsimp only [Option.bind]
  rw [if_pos hc, h1, pw_id (by omega) (by omega)]
theorem m_tak0 (h : TM τ T n p) {c : Int} (hc : hd T n p ≠ c) : ∃ τ', f_M_takes_84 c τ = some (0, τ') ∧ τ' 84 21 = -1000 * 1 - p ∧ MO τ τ' := by
  have h' := h
  obtain ⟨h1, h2, ⟨h3, h4, h5⟩, h6⟩ := h'
  refine ⟨pU τ 84 21 (-1000 * 1 - p), ?_, pU_s _ _ _ _, MO.u _ (by omega)⟩
  unfold f_M_takes_84
  rw [m_here h]
  dsimp only [Option.bind]
  rw [if_neg hc, h1, m_wrong (by omega) (by omega)]
  rfl
theorem c_reg1 (h : TP σ T n p) (hc : 48 ≤ hd T n p ∧ hd T n p ≤ 55) : ∃ σ', f_Tape_readRegister_1 σ = some (hd T n p - 48, σ') ∧ TP σ' T n (p + 1) ∧ CO σ σ' := by
  have hp : p < n := hd_in (T := T) (by omega)
  have h' := h
  obtain ⟨h1, h2, ⟨h3, h4, h5⟩, h6⟩ := h'
  refine ⟨pU σ 1 3 (p + 1), ?_, h.go (by omega) (by omega), CO.u _ _⟩
  unfold f_Tape_readRegister_1
  rw [c_sign h]
  dsimp only [Option.bind]
  rw [pw_id (by omega) (by omega), if_neg (by omega), if_pos (by omega), h1, pw_id (by omega) (by omega)]
theorem c_reg0 (h : TP σ T n p) (hT : TB T n) (hc : ¬ (48 ≤ hd T n p ∧ hd T n p ≤ 55)) : ∃ σ', f_Tape_readRegister_1 σ = some (-1, σ') ∧ σ' 1 4 = -1000 * 1 - p ∧ CO σ σ' := by
  have hr := hd_rng hT (p := p) h.2.2.1.1
  refine ⟨pU σ 1 4 (-1000 * 1 - p), ?_, pU_s _ _ _ _, CO.u _ _⟩
  have e : f_Tape_readRegister_1_p18 σ = some (-1, pU σ 1 4 (-1000 * 1 - p)) := by
    unfold f_Tape_readRegister_1_p18
    rw [c_fail h (by omega)]
    rfl
  unfold f_Tape_readRegister_1
  rw [c_sign h]
  dsimp only [Option.bind]
  rw [pw_id (by omega) (by omega)]
  by_cases h8 : hd T n p - 48 < 0
  · rw [if_pos h8, e]
  · rw [if_neg h8, if_neg (by omega), e]
theorem m_in {a b c : Int} : f_M_in a b c τ = some (if b ≤ a ∧ a ≤ c then 1 else 0, τ) := by
  unfold f_M_in
  by_cases h1 : a < b
  · rw [if_pos h1, if_neg (by omega)]
  · rw [if_neg h1]
    by_cases h2 : c < a
    · rw [if_pos h2, if_neg (by omega)]
    · rw [if_neg h2, if_pos (by omega)]
theorem m_reg1 (h : TM τ T n p) (hc : 48 ≤ hd T n p ∧ hd T n p ≤ 55) : ∃ τ', f_M_readsRegister_84 τ = some (1, τ') ∧ TM τ' T n (p + 1) ∧ MO τ τ' ∧ τ' 84 22 = hd T n p - 48 := by
  have hp : p < n := hd_in (T := T) (by omega)
  have h' := h
  obtain ⟨h1, h2, ⟨h3, h4, h5⟩, h6⟩ := h'
  refine ⟨pU (pU τ 84 22 (hd T n p - 48)) 84 19 (p + 1), ?_, h.at (pU_s _ _ _ _) ((pU_i _ _ _ _ (by decide)).trans (pU_i _ _ _ _ (by decide))) (fun i => (pU_c _ _ _ _ (by decide)).trans (pU_c _ _ _ _ (by decide))) (by omega) (by omega), (MO.u _ (by omega)).tr (MO.u _ (by omega)), (pU_i _ _ _ _ (by decide)).trans (pU_s _ _ _ _)⟩
  unfold f_M_readsRegister_84
  rw [m_here h]
  dsimp only [Option.bind]
  rw [m_in, if_pos hc]
  dsimp only
  rw [if_neg (by decide), m_here h]
  dsimp only
  rw [pw_id (by omega) (by omega), h1, pw_id (by omega) (by omega)]
theorem m_reg0 (h : TM τ T n p) (hc : ¬ (48 ≤ hd T n p ∧ hd T n p ≤ 55)) : ∃ τ', f_M_readsRegister_84 τ = some (0, τ') ∧ τ' 84 21 = -1000 * 1 - p ∧ MO τ τ' := by
  have h' := h
  obtain ⟨h1, h2, ⟨h3, h4, h5⟩, h6⟩ := h'
  refine ⟨pU τ 84 21 (-1000 * 1 - p), ?_, pU_s _ _ _ _, MO.u _ (by omega)⟩
  unfold f_M_readsRegister_84
  rw [m_here h]
  dsimp only [Option.bind]
  rw [m_in, if_neg hc]
  dsimp only
  rw [if_pos rfl, h1, m_wrong (by omega) (by omega)]
  rfl
theorem c_dig (h : TP σ T n p) : f_Tape_digitNext_1 σ = some (if 48 ≤ hd T n p ∧ hd T n p ≤ 57 then 1 else 0, σ) := by
  unfold f_Tape_digitNext_1
  rw [c_sign h]
  dsimp only [Option.bind]
  by_cases h1 : hd T n p < 48
  · rw [if_pos h1, if_neg (by omega)]
  · rw [if_neg h1, c_sign h]
    dsimp only
    by_cases h2 : 57 < hd T n p
    · rw [if_pos h2, if_neg (by omega)]
    · rw [if_neg h2, if_pos (by omega)]
theorem m_dig (h : TM τ T n p) : f_M_isDigit_84 τ = some (if 48 ≤ hd T n p ∧ hd T n p ≤ 57 then 1 else 0, τ) := by
  unfold f_M_isDigit_84
  rw [m_here h]
  dsimp only [Option.bind]
  by_cases h1 : hd T n p < 48
  · rw [if_pos h1, if_neg (by omega)]
  · rw [if_neg h1, m_here h]
    dsimp only
    by_cases h2 : 57 < hd T n p
    · rw [if_pos h2, if_neg (by omega)]
    · rw [if_neg h2, if_pos (by omega)]
end TPs
