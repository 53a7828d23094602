theorem bt_and (x : BitVec 32) (s : Nat) (hs : s ≤ 24) : (((x.sshiftRight s).setWidth 8).signExtend 32) &&& 255#32 = (x >>> s) &&& 255#32 := by
  apply BitVec.eq_of_getLsbD_eq
  intro i hi
  have h255 : (255#32).getLsbD i = decide (i < 8) := by
    revert i
    decide
  simp only [BitVec.getLsbD_and, h255]
  by_cases h : i < 8
  · simp only [h, decide_true, Bool.and_true]
    rw [BitVec.getLsbD_signExtend, BitVec.getLsbD_setWidth, BitVec.getLsbD_sshiftRight, BitVec.getLsbD_ushiftRight]
    have h1 : ¬ 32 ≤ i := by omega
    have h2 : s + i < 32 := by omega
    simp [h, hi, h2, h1]
  · simp [h]
theorem bt_i8 (x : Int32) : (x.toInt8.toInt32).toBitVec = (x.toBitVec.setWidth 8).signExtend 32 := by
  simp
  rw [BitVec.signExtend_eq_setWidth_of_le x.toBitVec (show 8 ≤ 32 by decide)]
theorem bt_8 (s : Int) (n : Nat) (hn : n ≤ 24) (hs : ∀ x : Int32, (x >>> (Int32.ofInt s &&& 31)).toBitVec = x.toBitVec.sshiftRight n) (hu : ∀ x : Int32, ((x.toUInt32 >>> ((Int32.ofInt s).toUInt32 &&& Int32.toUInt32 31)).toInt32).toBitVec = x.toBitVec >>> n) (a : Int) : pAnd (pI2b (pShr a s)) 255 = pAnd (pUsh a s) 255 := by
  unfold pAnd pI2b pShr pUsh pO
  simp only [Int32.ofInt_toInt]
  congr 1
  apply Int32.toBitVec_inj.mp
  show ((Int32.ofInt a >>> (Int32.ofInt s &&& 31)).toInt8.toInt32).toBitVec &&& 255#32 = (((Int32.ofInt a).toUInt32 >>> ((Int32.ofInt s).toUInt32 &&& Int32.toUInt32 31)).toInt32).toBitVec &&& 255#32
  rw [bt_i8, hs, hu]
  exact bt_and _ _ hn
theorem bt_0 (a : Int) : pAnd (pI2b (pShr a 0)) 255 = pAnd (pUsh a 0) 255 := bt_8 0 0 (by omega) (fun _ => rfl) (fun _ => rfl) a
theorem bt_1 (a : Int) : pAnd (pI2b (pShr a 8)) 255 = pAnd (pUsh a 8) 255 := bt_8 8 8 (by omega) (fun _ => rfl) (fun _ => rfl) a
theorem bt_2 (a : Int) : pAnd (pI2b (pShr a 16)) 255 = pAnd (pUsh a 16) 255 := bt_8 16 16 (by omega) (fun _ => rfl) (fun _ => rfl) a
theorem bt_3 (a : Int) : pAnd (pI2b (pShr a 24)) 255 = pAnd (pUsh a 24) 255 := bt_8 24 24 (by omega) (fun _ => rfl) (fun _ => rfl) a
theorem pAnd_255 (a : Int) : 0 ≤ pAnd a 255 ∧ pAnd a 255 ≤ 255 := by
  show 0 ≤ ((Int32.ofInt a).toBitVec &&& 255#32).toInt ∧ ((Int32.ofInt a).toBitVec &&& 255#32).toInt ≤ 255
  have h : ((Int32.ofInt a).toBitVec &&& 255#32).toNat ≤ 255 := by
    rw [BitVec.toNat_and]
    exact Nat.and_le_right
  rw [BitVec.toInt_eq_toNat_of_lt (by omega)]
  omega
theorem pI2b_r (a : Int) : -128 ≤ pI2b a ∧ pI2b a ≤ 127 := by
  unfold pI2b
  rw [Int8.toInt_toInt32]
  exact ⟨Int8.le_toInt _, Int8.toInt_le _⟩
theorem bt_k (a : Int) {k : Nat} (hk : k ≤ 3) : pAnd (pI2b (pShr a (8 * (k : Int)))) 255 = pAnd (pUsh a (8 * (k : Int))) 255 := by
  match k, hk with
  | 0, _ => exact bt_0 a
  | 1, _ => exact bt_1 a
  | 2, _ => exact bt_2 a
  | 3, _ => exact bt_3 a
def fX (σ : pS) (v : Int) : pS := pU (pU σ 2 (σ 1 1).toNat v) 1 1 (σ 1 1 + 1)
def fY (τ : pS) (v : Int) : pS := pU (pU τ 96 (τ 84 18).toNat v) 84 18 (τ 84 18 + 1)
theorem fd_c (n : Nat) (a : Int) {k : Nat} (hk : k ≤ 3) {σ : pS} (h : 0 ≤ σ 1 1 ∧ σ 1 1 < 260) : f_Tape_add_1_p3 (n + 1) a (8 * (k : Int)) σ = f_Tape_add_1_p3 n a (8 * (k : Int) - 8) (fX σ (pAnd (pUsh a (8 * (k : Int))) 255)) := by
  show (if 8 * (k : Int) < 0 then _ else _) = _
  rw [if_neg (by omega), if_neg (by omega), if_pos h, pw_id (by omega) (by omega), pw_id (by omega) (by omega)]
  rfl
theorem fd_m (n : Nat) (a : Int) {k : Nat} (hk : k ≤ 3) {τ : pS} (h : 0 ≤ τ 84 18 ∧ τ 84 18 < 260) : f_M_types_84_p2 (n + 1) a (k : Int) τ = f_M_types_84_p2 n a ((k : Int) - 1) (fY τ (pI2b (pShr a (8 * (k : Int))))) := by
  show (if (k : Int) < 0 then _ else _) = _
  rw [if_neg (by omega), if_pos h, pw_id (z := 8 * (k : Int)) (by omega) (by omega), if_pos (pI2b_r _), pw_id (by omega) (by omega), pw_id (by omega) (by omega)]
  rfl
theorem fd_tr {σ τ : pS} (h : TR σ τ) (h2 : σ 1 1 < 260) (a : Int) {k : Nat} (hk : k ≤ 3) : TR (fX σ (pAnd (pUsh a (8 * (k : Int))) 255)) (fY τ (pI2b (pShr a (8 * (k : Int))))) ∧ fX σ (pAnd (pUsh a (8 * (k : Int))) 255) 1 1 = σ 1 1 + 1 := by
  obtain ⟨h1, h3, h4⟩ := h
  have e1 : fX σ (pAnd (pUsh a (8 * (k : Int))) 255) 1 1 = σ 1 1 + 1 := pU_s _ _ _ _
  refine ⟨⟨?_, by rw [e1]; omega, fun i hi => ?_⟩, e1⟩
  · rw [e1]
    unfold fY
    rw [pU_s, h1]
  · rw [e1] at hi
    unfold fX fY
    rw [pU_c (pU σ 2 (σ 1 1).toNat (pAnd (pUsh a (8 * (k : Int))) 255)) 1 (σ 1 1 + 1) i (by decide), pU_c (pU τ 96 (τ 84 18).toNat (pI2b (pShr a (8 * (k : Int))))) 18 (τ 84 18 + 1) i (by decide)]
    by_cases hx : (i : Int) = σ 1 1
    · have e2 : (σ 1 1).toNat = i := by omega
      have e3 : (τ 84 18).toNat = i := by omega
      rw [e2, e3, pU_s, pU_s, bt_k a hk]
      exact ⟨rfl, pAnd_255 _⟩
    · rw [pU_i _ _ _ _ (by omega), pU_i _ _ _ _ (by omega)]
      exact h4 i (by omega)
theorem fd_w {σ τ : pS} (h : TR σ τ) (h2 : σ 1 1 + 4 ≤ 260) (a : Int) : ∃ σ' τ', f_Tape_add_1 a σ = some (0, σ') ∧ f_M_types_84 a τ = some (0, τ') ∧ TR σ' τ' ∧ σ' 1 1 = σ 1 1 + 4 := by
  have r := h.2.1
  obtain ⟨t1, e1⟩ := fd_tr h (by omega) a (k := 3) (by omega)
  obtain ⟨t2, e2⟩ := fd_tr t1 (by omega) a (k := 2) (by omega)
  obtain ⟨t3, e3⟩ := fd_tr t2 (by omega) a (k := 1) (by omega)
  obtain ⟨t4, e4⟩ := fd_tr t3 (by omega) a (k := 0) (by omega)
  refine ⟨_, _, ?_, ?_, t4, by omega⟩
  · show f_Tape_add_1_p3 (4095 + 1) a (8 * ((3 : Nat) : Int)) σ = _
    rw [fd_c 4095 a (k := 3) (by omega) (by omega)]
    show f_Tape_add_1_p3 (4094 + 1) a (8 * ((2 : Nat) : Int)) _ = _
    rw [fd_c 4094 a (k := 2) (by omega) (by omega)]
    show f_Tape_add_1_p3 (4093 + 1) a (8 * ((1 : Nat) : Int)) _ = _
    rw [fd_c 4093 a (k := 1) (by omega) (by omega)]
    show f_Tape_add_1_p3 (4092 + 1) a (8 * ((0 : Nat) : Int)) _ = _
    rw [fd_c 4092 a (k := 0) (by omega) (by omega)]
    rfl
  · have b0 := h.1
    have b1 := t1.1
    have b2 := t2.1
    have b3 := t3.1
    show f_M_types_84_p2 (4095 + 1) a ((3 : Nat) : Int) τ = _
    rw [fd_m 4095 a (k := 3) (by omega) (by omega)]
    show f_M_types_84_p2 (4094 + 1) a ((2 : Nat) : Int) _ = _
    rw [fd_m 4094 a (k := 2) (by omega) (by omega)]
    show f_M_types_84_p2 (4093 + 1) a ((1 : Nat) : Int) _ = _
    rw [fd_m 4093 a (k := 1) (by omega) (by omega)]
    show f_M_types_84_p2 (4092 + 1) a ((0 : Nat) : Int) _ = _
    rw [fd_m 4092 a (k := 0) (by omega) (by omega)]
    rfl
/-- feed: tapes alike stay so, the answers are equal -/
theorem feed_ls {σ τ : pS} (a b c d e : Int) (h : TR σ τ) : ∃ v σ' τ', f_X_feed_0 a b c d e σ = some (v, σ') ∧ f_M_feed_84 a b c d e τ = some (v, τ') ∧ TR σ' τ' ∧ ((σ 1 1 + 20 ≤ 260 ∧ σ' 1 1 = σ 1 1 + 20) ∨ (¬ σ 1 1 + 20 ≤ 260 ∧ σ' 1 1 = σ 1 1)) := by
  have r := h.2.1
  have e0 := h.1
  unfold f_X_feed_0 f_M_feed_84
  rw [pw_id (z := σ 1 1 + 20) (by omega) (by omega), pw_id (z := τ 84 18 + 20) (by omega) (by omega)]
  by_cases hc : σ 1 1 + 20 ≤ 260
  · obtain ⟨s1, u1, x1, y1, t1, l1⟩ := fd_w h (by omega) a
    obtain ⟨s2, u2, x2, y2, t2, l2⟩ := fd_w t1 (by omega) b
    obtain ⟨s3, u3, x3, y3, t3, l3⟩ := fd_w t2 (by omega) c
    obtain ⟨s4, u4, x4, y4, t4, l4⟩ := fd_w t3 (by omega) d
    obtain ⟨s5, u5, x5, y5, t5, l5⟩ := fd_w t4 (by omega) e
    refine ⟨s5 1 1, s5, u5, ?_, ?_, t5, Or.inl ⟨hc, by omega⟩⟩
    · rw [if_pos hc, x1, Option.bind_some, x2, Option.bind_some, x3, Option.bind_some, x4, Option.bind_some, x5, Option.bind_some]
    · rw [if_pos (by omega), y1, Option.bind_some, y2, Option.bind_some, y3, Option.bind_some, y4, Option.bind_some, y5, Option.bind_some, t5.1]
  · exact ⟨-1, σ, τ, if_neg hc, if_neg (by omega), h, Or.inr ⟨hc, rfl⟩⟩
