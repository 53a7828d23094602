theorem bt_and (x : BitVec 32) (s : Nat) (hs : s ≤ 24) : (((x.sshiftRight s).setWidth 8).signExtend 32) &&& 255#32 = (x >>> s) &&& 255#32 := by
  apply BitVec.eq_of_getLsbD_eq
  intro i hi
  have h255 : (255#32).getLsbD i = decide (i < 8) := by
    revert i
    decide
  simp only [BitVec.getLsbD_and, h255]
  by_cases h : i < 8
  · simp only [h, decide_true, Bool.and_true]
    rw [BitVec.getLsbD_signExtend, BitVec.getLsbD_setWidth, BitVec.getLsbD_sshiftRight, BitVec.getLsbD_ushiftRight]
    have h1 : ¬ 32 ≤ i := by omega
    have h2 : s + i < 32 := by omega
    simp [h, hi, h2, h1]
  · simp [h]
theorem bt_i8 (x : Int32) : (x.toInt8.toInt32).toBitVec = (x.toBitVec.setWidth 8).signExtend 32 := by
  simp
  rw [BitVec.signExtend_eq_setWidth_of_le x.toBitVec (show 8 ≤ 32 by decide)]
theorem bt_8 (s : Int) (n : Nat) (hn : n ≤ 24) (hs : ∀ x : Int32, (x >>> (Int32.ofInt s &&& 31)).toBitVec = x.toBitVec.sshiftRight n) (hu : ∀ x : Int32, ((x.toUInt32 >>> ((Int32.ofInt s).toUInt32 &&& Int32.toUInt32 31)).toInt32).toBitVec = x.toBitVec >>> n) (a : Int) : pAnd (pI2b (pShr a s)) 255 = pAnd (pUsh a s) 255 := by
  unfold pAnd pI2b pShr pUsh pO
  simp only [Int32.ofInt_toInt]
  congr 1
  apply Int32.toBitVec_inj.mp
  show ((Int32.ofInt a >>> (Int32.ofInt s &&& 31)).toInt8.toInt32).toBitVec &&& 255#32 = (((Int32.ofInt a).toUInt32 >>> ((Int32.ofInt s).toUInt32 &&& Int32.toUInt32 31)).toInt32).toBitVec &&& 255#32
  rw [bt_i8, hs, hu]
  exact bt_and _ _ hn
theorem bt_0 (a : Int) : pAnd (pI2b (pShr a 0)) 255 = pAnd (pUsh a 0) 255 := bt_8 0 0 (by omega) (fun _ => rfl) (fun _ => rfl) a
theorem bt_1 (a : Int) : pAnd (pI2b (pShr a 8)) 255 = pAnd (pUsh a 8) 255 := bt_8 8 8 (by omega) (fun _ => rfl) (fun _ => rfl) a
theorem bt_2 (a : Int) : pAnd (pI2b (pShr a 16)) 255 = pAnd (pUsh a 16) 255 := bt_8 16 16 (by omega) (fun _ => rfl) (fun _ => rfl) a
theorem bt_3 (a : Int) : pAnd (pI2b (pShr a 24)) 255 = pAnd (pUsh a 24) 255 := bt_8 24 24 (by omega) (fun _ => rfl) (fun _ => rfl) a
theorem pAnd_255 (a : Int) : 0 ≤ pAnd a 255 ∧ pAnd a 255 ≤ 255 := by
  show 0 ≤ ((Int32.ofInt a).toBitVec &&& 255#32).toInt ∧ ((Int32.ofInt a).toBitVec &&& 255#32).toInt ≤ 255
  have h : ((Int32.ofInt a).toBitVec &&& 255#32).toNat ≤ 255 := by
    rw [BitVec.toNat_and]
    exact Nat.and_le_right
  rw [BitVec.toInt_eq_toNat_of_lt (by omega)]
  omega
theorem pI2b_r (a : Int) : -128 ≤ pI2b a ∧ pI2b a ≤ 127 := by
  unfold pI2b
  rw [Int8.toInt_toInt32]
  exact ⟨Int8.le_toInt _, Int8.toInt_le _⟩
theorem bt_k (a : Int) {k : Nat} (hk : k ≤ 3) : pAnd (pI2b (pShr a (8 * (k : Int)))) 255 = pAnd (pUsh a (8 * (k : Int))) 255 := by
  match k, hk with
  | 0, _ => exact bt_0 a
  | 1, _ => exact bt_1 a
  | 2, _ => exact bt_2 a
  | 3, _ => exact bt_3 a
def fX (σ : pS) (v : Int) : pS := pU (pU σ 2 (σ 1 1).toNat v) 1 1 (σ 1 1 + 1)
def fY (τ : pS) (v : Int) : pS := pU (pU τ 96 (τ 84 18).toNat v) 84 18 (τ 84 18 + 1)
theorem fd_c (n : Nat) (a : Int) {k : Nat} (hk : k ≤ 3) {σ : pS} (h : 0 ≤ σ 1 1 ∧ σ 1 1 < 260) : f_Tape_add_1_p3 (n + 1) a (8 * (k : Int)) σ = f_Tape_add_1_p3 n a (8 * (k : Int) - 8) (fX σ (pAnd (pUsh a (8 * (k : Int))) 255)) := by
  show (if 8 * (k : Int) < 0 then _ else _) = _
  rw [if_neg (by omega), if_neg (by omega), if_pos h, pw_id (by omega) (by omega), pw_id (by omega) (by omega)]
  rfl
theorem fd_m (n : Nat) (a : Int) {k : Nat} (hk : k ≤ 3) {τ : pS} (h : 0 ≤ τ 84 18 ∧ τ 84 18 < 260) : f_M_types_84_p2 (n + 1) a (k : Int) τ = f_M_types_84_p2 n a ((k : Int) - 1) (fY τ (pI2b (pShr a (8 * (k : Int))))) := by
  show (if (k : Int) < 0 then _ else _) = _
  rw [if_neg (by omega), if_pos h, pw_id (z := 8 * (k : Int)) (by omega) (by omega), if_pos (pI2b_r _), pw_id (by omega) (by omega), pw_id (by omega) (by omega)]
  rfl
theorem fd_tr {σ τ : pS} (h : TR σ τ) (h2 : σ 1 1 < 260) (a : Int) {k : Nat} (hk : k ≤ 3) : TR (fX σ (pAnd (pUsh a (8 * (k : Int))) 255)) (fY τ (pI2b (pShr a (8 * (k : Int))))) ∧ fX σ (pAnd (pUsh a (8 * (k : Int))) 255) 1 1 = σ 1 1 + 1 := by
  obtain ⟨h1, h3, h4⟩ := h
  have e1 : fX σ (pAnd (pUsh a (8 * (k : Int))) 255) 1 1 = σ 1 1 + 1 := pU_s _ _ _ _
  refine ⟨⟨?_, by rw [e1]; omega, fun i hi => ?_⟩, e1⟩
  · rw [e1]
    unfold fY
    rw [pU_s, h1]
  · rw [e1] at hi
    unfold fX fY
    rw [pU_c (pU σ 2 (σ 1 1).toNat (pAnd (pUsh a (8 * (k : Int))) 255)) 1 (σ 1 1 + 1) i (by decide), pU_c (pU τ 96 (τ 84 18).toNat (pI2b (pShr a (8 * (k : Int))))) 18 (τ 84 18 + 1) i (by decide)]
    by_cases hx : (i : Int) = σ 1 1
    · have e2 : (σ 1 1).toNat = i := by omega
      have e3 : (τ 84 18).toNat = i := by omega
      rw [e2, e3, pU_s, pU_s, bt_k a hk]
      exact ⟨rfl, pAnd_255 _⟩
    · rw [pU_i _ _ _ _ (by omega), pU_i _ _ _ _ (by omega)]
      exact h4 i (by omega)
def PT (k _x : Nat) : Prop := k = 1 ∨ k = 2
def QT (k x : Nat) : Prop := k = 96 ∨ (k = 84 ∧ x = 18)
theorem fX_fr (σ : pS) (v : Int) : FR PT σ (fX σ v) := (FR.u (Or.inr rfl)).tr (FR.u (Or.inl rfl))
theorem fY_fr (σ : pS) (v : Int) : FR QT σ (fY σ v) := (FR.u (Or.inl rfl)).tr (FR.u (Or.inr ⟨rfl, rfl⟩))
theorem fd_w {σ τ : pS} (h : TR σ τ) (h2 : σ 1 1 + 4 ≤ 260) (a : Int) : ∃ σ' τ', f_Tape_add_1 a σ = some (0, σ') ∧ f_M_types_84 a τ = some (0, τ') ∧ TR σ' τ' ∧ σ' 1 1 = σ 1 1 + 4 ∧ FR PT σ σ' ∧ FR QT τ τ' := by
  have r := h.2.1
  obtain ⟨t1, e1⟩ := fd_tr h (by omega) a (k := 3) (by omega)
  obtain ⟨t2, e2⟩ := fd_tr t1 (by omega) a (k := 2) (by omega)
  obtain ⟨t3, e3⟩ := fd_tr t2 (by omega) a (k := 1) (by omega)
  obtain ⟨t4, e4⟩ := fd_tr t3 (by omega) a (k := 0) (by omega)
  refine ⟨_, _, ?_, ?_, t4, by omega, (((fX_fr _ _).tr (fX_fr _ _)).tr (fX_fr _ _)).tr (fX_fr _ _), (((fY_fr _ _).tr (fY_fr _ _)).tr (fY_fr _ _)).tr (fY_fr _ _)⟩
  · show f_Tape_add_1_p3 (4095 + 1) a (8 * ((3 : Nat) : Int)) σ = _
    rw [fd_c 4095 a (k := 3) (by omega) (by omega)]
    show f_Tape_add_1_p3 (4094 + 1) a (8 * ((2 : Nat) : Int)) _ = _
    rw [fd_c 4094 a (k := 2) (by omega) (by omega)]
    show f_Tape_add_1_p3 (4093 + 1) a (8 * ((1 : Nat) : Int)) _ = _
    rw [fd_c 4093 a (k := 1) (by omega) (by omega)]
    show f_Tape_add_1_p3 (4092 + 1) a (8 * ((0 : Nat) : Int)) _ = _
    rw [fd_c 4092 a (k := 0) (by omega) (by omega)]
    rfl
  · have b0 := h.1
    have b1 := t1.1
    have b2 := t2.1
    have b3 := t3.1
    show f_M_types_84_p2 (4095 + 1) a ((3 : Nat) : Int) τ = _
    rw [fd_m 4095 a (k := 3) (by omega) (by omega)]
    show f_M_types_84_p2 (4094 + 1) a ((2 : Nat) : Int) _ = _
    rw [fd_m 4094 a (k := 2) (by omega) (by omega)]
    show f_M_types_84_p2 (4093 + 1) a ((1 : Nat) : Int) _ = _
    rw [fd_m 4093 a (k := 1) (by omega) (by omega)]
    show f_M_types_84_p2 (4092 + 1) a ((0 : Nat) : Int) _ = _
    rw [fd_m 4092 a (k := 0) (by omega) (by omega)]
    rfl
/-- feed: tapes alike stay so, the answers are equal -/
theorem feed_ls {σ τ : pS} (a b c d e : Int) (h : TR σ τ) : ∃ v σ' τ', f_X_feed_0 a b c d e σ = some (v, σ') ∧ f_M_feed_84 a b c d e τ = some (v, τ') ∧ TR σ' τ' ∧ FR PT σ σ' ∧ FR QT τ τ' := by
  have r := h.2.1
  have e0 := h.1
  unfold f_X_feed_0 f_M_feed_84
  rw [pw_id (z := σ 1 1 + 20) (by omega) (by omega), pw_id (z := τ 84 18 + 20) (by omega) (by omega)]
  by_cases hc : σ 1 1 + 20 ≤ 260
  · obtain ⟨s1, u1, x1, y1, t1, l1, a1, b1⟩ := fd_w h (by omega) a
    obtain ⟨s2, u2, x2, y2, t2, l2, a2, b2⟩ := fd_w t1 (by omega) b
    obtain ⟨s3, u3, x3, y3, t3, l3, a3, b3⟩ := fd_w t2 (by omega) c
    obtain ⟨s4, u4, x4, y4, t4, l4, a4, b4⟩ := fd_w t3 (by omega) d
    obtain ⟨s5, u5, x5, y5, t5, l5, a5, b5⟩ := fd_w t4 (by omega) e
    refine ⟨s5 1 1, s5, u5, ?_, ?_, t5, (((a1.tr a2).tr a3).tr a4).tr a5, (((b1.tr b2).tr b3).tr b4).tr b5⟩
    · rw [if_pos hc, x1, Option.bind_some, x2, Option.bind_some, x3, Option.bind_some, x4, Option.bind_some, x5, Option.bind_some]
    · rw [if_pos (by omega), y1, Option.bind_some, y2, Option.bind_some, y3, Option.bind_some, y4, Option.bind_some, y5, Option.bind_some, t5.1]
  · exact ⟨-1, σ, τ, if_neg hc, if_neg (by omega), h, FR.rf _ _, FR.rf _ _⟩
section SD
variable {σ τ : pS} {m : Nat} {rec : Nat → O8}
theorem m_gives (hm : m ≤ 20) (h : ∀ j, j < m → CRp σ j (rec j) ∧ MRp τ j (rec j) ∧ VR (rec j)) {k : Nat} (hk : k < m) {r : Int} (hr : 0 ≤ r) : f_M_gives_84 (k : Int) r τ = some (if σ 8 k = r then 1 else 0, τ) := by
  obtain ⟨hc, hM, hv⟩ := h k hk
  have g : (0 : Int) ≤ (k : Int) ∧ (k : Int) < 20 := by omega
  unfold f_M_gives_84
  simp only [Int.toNat_natCast, if_pos g]
  simp only [hM.1, hM.2.2.1]
  rcases hc.2.2.2.1 with ⟨a1, a2, -⟩ | ⟨a1, a2, -⟩
  · rw [if_pos a1, a2, if_neg (by omega)]
  · rw [if_neg a1, a2]
    by_cases h2 : (rec k).2.2.2.1 = r
    · rw [if_pos h2, if_pos h2]
    · rw [if_neg h2, if_neg h2]
theorem m_reads (hm : m ≤ 20) (h : ∀ j, j < m → CRp σ j (rec j) ∧ MRp τ j (rec j) ∧ VR (rec j)) {k : Nat} (hk : k < m) {r : Int} (hr : 0 ≤ r) : f_M_doesRead_84 (k : Int) r τ = some (if σ 9 k = r ∨ σ 10 k = r then 1 else 0, τ) := by
  obtain ⟨hc, hM, hv⟩ := h k hk
  have g : (0 : Int) ≤ (k : Int) ∧ (k : Int) < 20 := by omega
  obtain ⟨v1, v2, v3, v4, -⟩ := hv
  obtain ⟨-, -, -, c4, c5, -⟩ := hc
  obtain ⟨m1, -, m3, m4, m5, -⟩ := hM
  unfold f_M_doesRead_84
  simp only [Int.toNat_natCast, if_pos g]
  simp only [m1]
  by_cases k0 : (rec k).1 = 0
  · rw [if_pos k0, if_neg]
    rcases c4 with ⟨a1, -⟩ | ⟨-, a2, a3⟩
    · omega
    rcases c5 with ⟨a1, -⟩ | ⟨-, a5⟩
    · omega
    rcases v3 with ⟨a1, -⟩ | ⟨-, a6, a7⟩
    · omega
    rcases v4 with ⟨a1, -⟩ | ⟨-, a8, a9⟩
    · omega
    omega
  rw [if_neg k0]
  by_cases k1 : (rec k).1 = 1
  · rw [if_pos k1]
    obtain ⟨q1, q2⟩ := m4 k1
    simp only [q1, q2]
    rcases c4 with ⟨a1, -⟩ | ⟨-, a2, a3⟩
    · omega
    rcases c5 with ⟨-, a5⟩ | ⟨a1, -⟩
    · rw [a3, a5]
      by_cases h1 : (rec k).2.2.2.2.1 = r
      · rw [if_pos h1, if_pos (Or.inl h1)]
      · rw [if_neg h1]
        by_cases h2 : (rec k).2.2.2.2.2.1 = r
        · rw [if_pos h2, if_pos (Or.inr h2)]
        · rw [if_neg h2, if_neg (by omega)]
    · omega
  rw [if_neg k1]
  obtain ⟨q1, q2⟩ := m5 (by omega)
  have v3' : (rec k).2.2.2.2.1 = -1 := by
    rcases v3 with ⟨a1, -⟩ | ⟨-, a6, -⟩
    · omega
    · exact a6
  have c5' : σ 10 k = (rec k).2.2.2.2.2.2.1 := by
    rcases c5 with ⟨a1, -⟩ | ⟨-, a5⟩
    · omega
    · exact a5
  by_cases k2 : (rec k).1 = 2
  · rw [if_pos k2]
    simp only [q2]
    rcases c4 with ⟨a1, -⟩ | ⟨-, a2, a3⟩
    · omega
    rw [a3, c5']
    by_cases h1 : (rec k).2.2.2.2.2.2.1 = r
    · rw [if_pos h1, if_pos (Or.inr h1)]
    · rw [if_neg h1, if_neg (by omega)]
  · rw [if_neg k2]
    simp only [m3, q2]
    rcases c4 with ⟨-, a2, a3⟩ | ⟨a1, -⟩
    · rw [a3, c5']
      by_cases h1 : (rec k).2.2.2.1 = r
      · rw [if_pos h1, if_pos (Or.inl h1)]
      · rw [if_neg h1]
        by_cases h2 : (rec k).2.2.2.2.2.2.1 = r
        · rw [if_pos h2, if_pos (Or.inr h2)]
        · rw [if_neg h2, if_neg (by omega)]
    · omega
theorem m_giv0 (hm : m ≤ 20) (h : ∀ j, j < m → CRp σ j (rec j) ∧ MRp τ j (rec j) ∧ VR (rec j)) {r : Int} (hr : 0 ≤ r) : ∀ (i fu : Nat), i ≤ m → i < fu → f_M_giverOf_84_p4 fu r ((i : Int) - 1) τ = some (gv (σ 8) i r, τ)
  | 0, fu, _, hf => by
    obtain ⟨n, rfl⟩ : ∃ n, fu = n + 1 := ⟨fu - 1, by omega⟩
    show (if ((0 : Nat) : Int) - 1 < 0 then _ else _) = _
    rw [if_pos (by omega)]
    rfl
  | i + 1, fu, hi, hf => by
    obtain ⟨n, rfl⟩ : ∃ n, fu = n + 1 := ⟨fu - 1, by omega⟩
    show (if ((i + 1 : Nat) : Int) - 1 < 0 then _ else _) = _
    have e : ((i + 1 : Nat) : Int) - 1 = (i : Int) := by omega
    rw [if_neg (by omega), e, m_gives hm h (show i < m by omega) hr, Option.bind_some]
    unfold gv
    by_cases hg : σ 8 i = r
    · simp only [if_pos hg]
      rfl
    · simp only [if_neg hg]
      rw [if_pos trivial, pw_id (by omega) (by omega), show (i : Int) + -1 = (i : Int) - 1 by omega]
      exact m_giv0 hm h hr i n (by omega) (by omega)
theorem m_giv (hm : m ≤ 20) (h : ∀ j, j < m → CRp σ j (rec j) ∧ MRp τ j (rec j) ∧ VR (rec j)) {r : Int} (hr : 0 ≤ r) {i : Nat} (hi : i ≤ m) : f_M_giverOf_84 (i : Int) r τ = some (gv (σ 8) i r, τ) := by
  unfold f_M_giverOf_84
  rw [pw_id (by omega) (by omega)]
  exact m_giv0 hm h hr i 4096 hi (by omega)
end SD
/-- source: equal answers -/
theorem source_ls {σ τ : pS} (a b : Int) (hP : PRG σ τ) : ∃ v, f_X_source_0 a b σ = some (v, σ) ∧ f_M_source_84 a b τ = some (v, τ) := by
  obtain ⟨m, rec, D, hm, h1, h2, h3, h4, -⟩ := hP
  have eA : ∀ s : Int, f_X_orAbsent s σ = some (if s = -1 then -2 else s, σ) := fun s => by
    unfold f_X_orAbsent
    split <;> rfl
  have eB : ∀ s : Int, f_M_source_84_p39 s τ = some (if s = -1 then -2 else s, τ) := fun s => by
    unfold f_M_source_84_p39
    split <;> rfl
  have eO : f_X_isOp_0 a σ = some (if 0 ≤ a ∧ a < m then 1 else 0, σ) := by
    unfold f_X_isOp_0
    rw [h1]
    by_cases q : a < 0
    · rw [if_pos q, if_neg (by omega)]
    · rw [if_neg q]
      by_cases q2 : (m : Int) ≤ a
      · rw [if_pos q2, if_neg (by omega)]
      · rw [if_neg q2, if_pos (by omega)]
  have eP : f_M_isOp_84 a τ = some (if 0 ≤ a ∧ a < m then 1 else 0, τ) := by
    unfold f_M_isOp_84
    rw [h2, pw_id (by omega) (by omega), m_in, Option.bind_some]
    by_cases q : 0 ≤ a ∧ a ≤ (m : Int) - 1
    · rw [if_pos q, if_pos (show 0 ≤ a ∧ a < (m : Int) by omega)]
      rfl
    · rw [if_neg q, if_neg (show ¬ (0 ≤ a ∧ a < (m : Int)) by omega)]
      rfl
  unfold f_X_source_0 f_M_source_84
  rw [eO, eP, Option.bind_some, Option.bind_some]
  by_cases q : 0 ≤ a ∧ a < (m : Int)
  · rw [if_pos q]
    simp only [x_isCell, m_in, Option.bind_some]
    rw [if_neg (show ¬ ((1 : Int) = 0) by omega), if_neg (show ¬ ((1 : Int) = 0) by omega)]
    by_cases q2 : 0 ≤ b ∧ b < 8
    · have q3 : 0 ≤ b ∧ b ≤ 7 := by omega
      simp only [if_pos q2, if_pos q3]
      rw [if_neg (show ¬ ((1 : Int) = 0) by omega), if_neg (show ¬ ((1 : Int) = 0) by omega)]
      obtain ⟨i, rfl⟩ : ∃ i : Nat, a = (i : Int) := ⟨a.toNat, by omega⟩
      have hi : i < m := by omega
      have g : (0 : Int) ≤ (i : Int) ∧ (i : Int) < 20 := by omega
      obtain ⟨s1, s2⟩ := h4 i hi
      simp only [if_pos g, Int.toNat_natCast]
      rw [m_reads hm h3 hi q2.1, Option.bind_some]
      simp only [m_giv hm h3 q2.1 (Nat.le_of_lt hi), Option.bind_some, eA, eB]
      by_cases f1 : σ 9 i = b
      · rw [if_pos f1, if_pos (Or.inl f1), s1, f1, if_neg (show ¬ ((1 : Int) = 0) by omega)]
        unfold src
        rw [if_pos q2]
        exact ⟨_, rfl, rfl⟩
      · rw [if_neg f1]
        by_cases f2 : σ 10 i = b
        · rw [if_pos f2, if_pos (Or.inr f2), s2, f2, if_neg (show ¬ ((1 : Int) = 0) by omega)]
          unfold src
          rw [if_pos q2]
          exact ⟨_, rfl, rfl⟩
        · rw [if_neg f2, if_neg (show ¬ (σ 9 i = b ∨ σ 10 i = b) by omega), if_pos rfl]
          exact ⟨_, rfl, rfl⟩
    · have q3 : ¬ (0 ≤ b ∧ b ≤ 7) := by omega
      simp only [if_neg q2, if_neg q3]
      exact ⟨-1, rfl, rfl⟩
  · rw [if_neg q]
    exact ⟨-1, rfl, rfl⟩
def dk (D : Nat → Int) (k : Nat) (s : Int) : Int := if 0 ≤ s ∧ s < (k : Int) then D s.toNat else 0
section DP
variable {σ τ : pS} {m : Nat} {rec : Nat → O8}
def hX (σ : pS) (i r : Nat) (k : Int) : Prop := ∃ x : Nat, r ≤ x ∧ x < 8 ∧ (σ 9 i = (x : Int) ∨ σ 10 i = (x : Int)) ∧ gv (σ 8) i (x : Int) = k
theorem m_has0 (hm : m ≤ 20) (h : ∀ j, j < m → CRp σ j (rec j) ∧ MRp τ j (rec j) ∧ VR (rec j)) {i : Nat} (hi : i < m) {k : Int} : ∀ (d r fu : Nat), r + d = 8 → d < fu → ∃ b : Int, f_M_hasSource_84_p2 fu (i : Int) k (r : Int) τ = some (b, τ) ∧ ((b = 1 ∧ hX σ i r k) ∨ (b = 0 ∧ ¬ hX σ i r k))
  | 0, r, fu, hr, hf => by
    obtain ⟨n, rfl⟩ : ∃ n, fu = n + 1 := ⟨fu - 1, by omega⟩
    show ∃ b : Int, (if (8 : Int) ≤ (r : Int) then _ else _) = _ ∧ _
    rw [if_pos (by omega)]
    refine ⟨0, rfl, Or.inr ⟨rfl, ?_⟩⟩
    rintro ⟨x, x1, x2, -⟩
    omega
  | d + 1, r, fu, hr, hf => by
    obtain ⟨n, rfl⟩ : ∃ n, fu = n + 1 := ⟨fu - 1, by omega⟩
    show ∃ b : Int, (if (8 : Int) ≤ (r : Int) then _ else _) = _ ∧ _
    rw [if_neg (by omega), m_reads hm h hi (by omega), Option.bind_some]
    obtain ⟨b, ih, hb⟩ := m_has0 hm h hi (k := k) d (r + 1) n (by omega) (by omega)
    have e : pw ((r : Int) + 1) = ((r + 1 : Nat) : Int) := by rw [pw_id (by omega) (by omega)]; omega
    have up : ¬ ((σ 9 i = (r : Int) ∨ σ 10 i = (r : Int)) ∧ gv (σ 8) i (r : Int) = k) → ((b = 1 ∧ hX σ i r k) ∨ (b = 0 ∧ ¬ hX σ i r k)) := fun hno => by
      rcases hb with ⟨b1, x, x1, x2⟩ | ⟨b1, b2⟩
      · exact Or.inl ⟨b1, x, by omega, x2⟩
      · refine Or.inr ⟨b1, ?_⟩
        rintro ⟨x, x1, x2, x3⟩
        by_cases hx : x = r
        · rw [hx] at x3
          exact hno x3
        · exact b2 ⟨x, by omega, x2, x3⟩
    by_cases h1 : σ 9 i = (r : Int) ∨ σ 10 i = (r : Int)
    · simp only [if_pos h1]
      rw [if_neg (by omega), m_giv hm h (show (0 : Int) ≤ (r : Int) by omega) (Nat.le_of_lt hi), Option.bind_some]
      by_cases h2 : gv (σ 8) i (r : Int) = k
      · simp only [if_pos h2]
        exact ⟨1, rfl, Or.inl ⟨rfl, r, Nat.le_refl _, by omega, h1, h2⟩⟩
      · simp only [if_neg h2]
        rw [e, ih]
        exact ⟨b, rfl, up (fun q => h2 q.2)⟩
    · simp only [if_neg h1]
      rw [if_pos trivial, e, ih]
      exact ⟨b, rfl, up (fun q => h1 q.1)⟩
theorem m_has (hm : m ≤ 20) (h : ∀ j, j < m → CRp σ j (rec j) ∧ MRp τ j (rec j) ∧ VR (rec j)) {i : Nat} (hi : i < m) {k : Nat} : f_M_hasSource_84 (i : Int) (k : Int) τ = some (if src (σ 8) i (σ 9 i) = (k : Int) ∨ src (σ 8) i (σ 10 i) = (k : Int) then 1 else 0, τ) := by
  obtain ⟨b, e, hb⟩ := m_has0 hm h hi (k := (k : Int)) 8 0 4096 (by omega) (by omega)
  refine (show f_M_hasSource_84 (i : Int) (k : Int) τ = _ from e).trans ?_
  have hh : hX σ i 0 (k : Int) ↔ (src (σ 8) i (σ 9 i) = (k : Int) ∨ src (σ 8) i (σ 10 i) = (k : Int)) := by
    unfold src
    constructor
    · rintro ⟨x, -, x2, x3 | x3, x4⟩
      · left
        rw [x3, if_pos (by omega)]
        exact x4
      · right
        rw [x3, if_pos (by omega)]
        exact x4
    · rintro (q | q)
      · by_cases hr : 0 ≤ σ 9 i ∧ σ 9 i < 8
        · rw [if_pos hr] at q
          exact ⟨(σ 9 i).toNat, by omega, by omega, Or.inl (by omega), by rw [show (((σ 9 i).toNat : Nat) : Int) = σ 9 i by omega]; exact q⟩
        · rw [if_neg hr] at q
          omega
      · by_cases hr : 0 ≤ σ 10 i ∧ σ 10 i < 8
        · rw [if_pos hr] at q
          exact ⟨(σ 10 i).toNat, by omega, by omega, Or.inr (by omega), by rw [show (((σ 10 i).toNat : Nat) : Int) = σ 10 i by omega]; exact q⟩
        · rw [if_neg hr] at q
          omega
  rcases hb with ⟨b1, b2⟩ | ⟨b1, b2⟩
  · rw [b1, if_pos (hh.mp b2)]
  · rw [b1, if_neg (fun q => b2 (hh.mpr q))]
theorem MRp.o {τ τ' : pS} {j : Nat} {r : O8} (h : MRp τ j r) (e : ∀ k x, k ≠ 143 → τ' k x = τ k x) : MRp τ' j r := by
  unfold MRp at *
  rw [e 88 _ (by decide), e 89 _ (by decide), e 90 _ (by decide), e 91 _ (by decide), e 92 _ (by decide), e 93 _ (by decide), e 94 _ (by decide), e 95 _ (by decide)]
  exact h
theorem m_mx {a b : Int} {τ : pS} : f_M_max a b τ = some (pMax a b, τ) := by
  unfold f_M_max pMax
  by_cases h : a ≤ b
  · rw [if_pos h]
    by_cases h2 : a < b
    · rw [if_pos h2]
    · rw [if_neg h2, show b = a by omega]
  · rw [if_neg h, if_neg (by omega)]
theorem m_d21 {D : Nat → Int} (hm : m ≤ 20) (K : Int → Int → pS → Option (Int × pS)) (hD : ∀ j, j < m → 1 ≤ D j ∧ D j ≤ (j : Int) + 1) {i : Nat} (hi : i < m) (mo : Int) : ∀ (d k fu : Nat) (τ : pS), k + d = i → d < fu → (∀ j, j < m → CRp σ j (rec j) ∧ MRp τ j (rec j) ∧ VR (rec j)) → (∀ j, j < i → τ 143 j = D j) → τ 143 i = 1 + pMax (dk D k (src (σ 8) i (σ 9 i))) (dk D k (src (σ 8) i (σ 10 i))) →
    ∃ τ', f_M_deep_84_p21 K fu mo (i : Int) (k : Int) τ = K (pMax mo (1 + pMax (dz D (src (σ 8) i (σ 9 i))) (dz D (src (σ 8) i (σ 10 i))))) ((i : Int) + 1) τ' ∧ (∀ k x, k ≠ 143 → τ' k x = τ k x) ∧ (∀ j, j < i → τ' 143 j = D j) ∧ τ' 143 i = 1 + pMax (dz D (src (σ 8) i (σ 9 i))) (dz D (src (σ 8) i (σ 10 i)))
  | 0, k, fu, τ, hk, hf, h, hd, hc => by
    obtain ⟨n, rfl⟩ : ∃ n, fu = n + 1 := ⟨fu - 1, by omega⟩
    obtain rfl : k = i := by omega
    have g : (0 : Int) ≤ (k : Int) ∧ (k : Int) < 20 := by omega
    have s1 := src_r (σ 8) k (σ 9 k)
    have s2 := src_r (σ 8) k (σ 10 k)
    have ez : ∀ s : Int, -1 ≤ s → s < (k : Int) → dk D k s = dz D s := fun s q1 q2 => by
      unfold dk dz
      by_cases q : s < 0
      · rw [if_pos q, if_neg (by omega)]
      · rw [if_neg q, if_pos (by omega)]
    rw [ez _ s1.1 s1.2, ez _ s2.1 s2.2] at hc
    refine ⟨τ, ?_, fun _ _ _ => rfl, hd, hc⟩
    show (if (k : Int) ≤ (k : Int) then _ else _) = _
    rw [if_pos (by omega), if_pos g, m_mx, Option.bind_some, Int.toNat_natCast, hc, pw_id (by omega) (by omega)]
  | d + 1, k, fu, τ, hk, hf, h, hd, hc => by
    obtain ⟨n, rfl⟩ : ∃ n, fu = n + 1 := ⟨fu - 1, by omega⟩
    have g : (0 : Int) ≤ (i : Int) ∧ (i : Int) < 20 := by omega
    have g2 : (0 : Int) ≤ (k : Int) ∧ (k : Int) < 20 := by omega
    have s1 := src_r (σ 8) i (σ 9 i)
    have s2 := src_r (σ 8) i (σ 10 i)
    have e : pw ((k : Int) + 1) = ((k + 1 : Nat) : Int) := by rw [pw_id (by omega) (by omega)]; omega
    have dk1 := hD k (by omega)
    have dn : ∀ s : Int, s ≠ (k : Int) → dk D (k + 1) s = dk D k s := fun s q => by
      unfold dk
      by_cases q2 : 0 ≤ s ∧ s < (k : Int)
      · rw [if_pos q2, if_pos (by omega)]
      · rw [if_neg q2, if_neg (by omega)]
    have dp : dk D (k + 1) (k : Int) = D k := by
      unfold dk
      rw [if_pos (by omega), Int.toNat_natCast]
    have d0 : dk D k (k : Int) = 0 := by
      unfold dk
      rw [if_neg (by omega)]
    show ∃ τ', (if (i : Int) ≤ (k : Int) then _ else _) = _ ∧ _
    rw [if_neg (by omega), m_has hm h hi, Option.bind_some]
    by_cases hs : src (σ 8) i (σ 9 i) = (k : Int) ∨ src (σ 8) i (σ 10 i) = (k : Int)
    · simp only [if_pos hs, if_pos g, if_pos g2, m_mx, Option.bind_some, Int.toNat_natCast]
      rw [if_neg (by omega), hd k (by omega), pw_id (z := D k + 1) (by omega) (by omega), e]
      have hv : pMax (τ 143 i) (D k + 1) = 1 + pMax (dk D (k + 1) (src (σ 8) i (σ 9 i))) (dk D (k + 1) (src (σ 8) i (σ 10 i))) := by
        rw [hc]
        by_cases a1 : src (σ 8) i (σ 9 i) = (k : Int)
        · by_cases a2 : src (σ 8) i (σ 10 i) = (k : Int)
          · rw [a1, a2, dp, d0]
            unfold pMax
            (repeat' split) <;> omega
          · rw [a1, dp, d0, dn _ a2]
            unfold pMax
            (repeat' split) <;> omega
        · have a2 : src (σ 8) i (σ 10 i) = (k : Int) := by omega
          rw [a2, dp, d0, dn _ a1]
          unfold pMax
          (repeat' split) <;> omega
      obtain ⟨τ', q1, q2, q3, q4⟩ := m_d21 hm K hD hi mo d (k + 1) n (pU τ 143 i (pMax (τ 143 i) (D k + 1))) (by omega) (by omega) (fun j hj => ⟨(h j hj).1, (h j hj).2.1.o (fun a x ha => pU_c _ _ _ _ ha), (h j hj).2.2⟩) (fun j hj => by rw [pU_i _ _ _ _ (by omega)]; exact hd j hj) (by rw [pU_s]; exact hv)
      exact ⟨τ', q1, fun a x ha => (q2 a x ha).trans (pU_c _ _ _ _ ha), q3, q4⟩
    · simp only [if_neg hs]
      rw [if_pos trivial, e]
      exact m_d21 hm K hD hi mo d (k + 1) n τ (by omega) (by omega) h hd (by rw [hc, dn _ (by omega), dn _ (by omega)])
end DP
theorem m_d4 {σ : pS} {m : Nat} {rec : Nat → O8} {D : Nat → Int} {dp : Int} (hm : m ≤ 20) (hp : DPT (σ 8) (σ 9) (σ 10) D m dp) : ∀ (d i fu : Nat) (mo : Int) (τ : pS), i + d = m → d < fu → τ 84 2 = (m : Int) → (∀ j, j < m → CRp σ j (rec j) ∧ MRp τ j (rec j) ∧ VR (rec j)) → (∀ j, j < i → τ 143 j = D j) → (0 ≤ mo ∧ (∀ j, j < i → D j ≤ mo) ∧ (i = 0 → mo = 0) ∧ (0 < i → ∃ j, j < i ∧ mo = D j)) → ∃ τ', f_M_deep_84_p4 fu mo (i : Int) τ = some (dp, τ') ∧ ∀ k x, k ≠ 143 → τ' k x = τ k x
  | 0, i, fu, mo, τ, hi, hf, h2, h, hd, ho => by
    obtain ⟨n, rfl⟩ : ∃ n, fu = n + 1 := ⟨fu - 1, by omega⟩
    obtain rfl : i = m := by omega
    obtain ⟨-, p1, p2, p3, p4⟩ := hp
    obtain ⟨o1, o2, o3, o4⟩ := ho
    refine ⟨τ, ?_, fun _ _ _ => rfl⟩
    show (if τ 84 2 ≤ (i : Int) then _ else _) = _
    rw [if_pos (by omega)]
    have : mo = dp := by
      by_cases hz : i = 0
      · rw [o3 hz, p3 hz]
      · obtain ⟨j, j1, j2⟩ := o4 (by omega)
        obtain ⟨k, k1, k2⟩ := p4 (by omega)
        have := p2 j j1
        have := o2 k k1
        omega
    rw [this]
  | d + 1, i, fu, mo, τ, hi, hf, h2, h, hd, ho => by
    obtain ⟨n, rfl⟩ : ∃ n, fu = n + 1 := ⟨fu - 1, by omega⟩
    have g : (0 : Int) ≤ (i : Int) ∧ (i : Int) < 20 := by omega
    obtain ⟨o1, o2, o3, o4⟩ := ho
    have hD : ∀ j, j < m → 1 ≤ D j ∧ D j ≤ (j : Int) + 1 := fun j hj => (hp.1 j hj).1
    have hDi := (hp.1 i (by omega)).2
    show ∃ τ', (if τ 84 2 ≤ (i : Int) then _ else _) = _ ∧ _
    rw [if_neg (by omega), if_pos g, Int.toNat_natCast]
    obtain ⟨τ', q1, q2, q3, q4⟩ := m_d21 (σ := σ) (rec := rec) (D := D) hm (f_M_deep_84_p4 n) hD (show i < m by omega) mo i 0 4096 (pU τ 143 i 1) (by omega) (by omega) (fun j hj => ⟨(h j hj).1, (h j hj).2.1.o (fun a x ha => pU_c _ _ _ _ ha), (h j hj).2.2⟩) (fun j hj => by rw [pU_i _ _ _ _ (by omega)]; exact hd j hj) (by
      rw [pU_s]
      unfold dk
      rw [if_neg (by omega), if_neg (by omega)]
      rfl)
    have e0 : ((0 : Nat) : Int) = 0 := rfl
    rw [e0] at q1
    rw [q1, ← hDi, show (i : Int) + 1 = ((i + 1 : Nat) : Int) by omega]
    rw [← hDi] at q4
    have hDr := hD i (by omega)
    have hh : ∃ τ'', f_M_deep_84_p4 n (pMax mo (D i)) ((i + 1 : Nat) : Int) τ' = some (dp, τ'') ∧ ∀ k x, k ≠ 143 → τ'' k x = τ' k x := by
      refine m_d4 hm hp d (i + 1) n (pMax mo (D i)) τ' (by omega) (by omega) ((q2 84 2 (by decide)).trans ((pU_c _ _ _ _ (by decide)).trans h2)) (fun j hj => ⟨(h j hj).1, (h j hj).2.1.o (fun a x ha => (q2 a x ha).trans (pU_c _ _ _ _ ha)), (h j hj).2.2⟩) (fun j hj => ?_) ⟨?_, fun j hj => ?_, fun hz => by omega, fun _ => ?_⟩
      · by_cases hji : j = i
        · rw [hji]
          exact q4
        · exact q3 j (by omega)
      · unfold pMax
        split <;> omega
      · by_cases hji : j = i
        · rw [hji]
          unfold pMax
          split <;> omega
        · have := o2 j (by omega)
          unfold pMax
          split <;> omega
      · unfold pMax
        by_cases hlt : mo < D i
        · rw [if_pos hlt]
          exact ⟨i, by omega, rfl⟩
        · rw [if_neg hlt]
          by_cases hz : i = 0
          · have := o3 hz
            omega
          · obtain ⟨j, j1, j2⟩ := o4 (by omega)
            exact ⟨j, by omega, j2⟩
    obtain ⟨τ2, z1, z2⟩ := hh
    exact ⟨τ2, z1, fun k x h => (z2 k x h).trans ((q2 k x h).trans (pU_c _ _ _ _ h))⟩
/-- deep: equal answers -/
theorem deep_ls {σ τ : pS} (hP : PRG σ τ) : ∃ v τ', f_X_deep_0 σ = some (v, σ) ∧ f_M_deep_84 τ = some (v, τ') ∧ ∀ k x, k ≠ 143 → τ' k x = τ k x := by
  obtain ⟨m, rec, D, hm, h1, h2, h3, -, h5⟩ := hP
  obtain ⟨τ', q, q2⟩ := m_d4 (rec := rec) hm h5 m 0 4096 0 τ (by omega) (by omega) h2 h3 (fun j hj => absurd hj (Nat.not_lt_zero _)) ⟨by omega, fun j hj => absurd hj (Nat.not_lt_zero _), fun _ => rfl, fun hz => absurd hz (Nat.lt_irrefl _)⟩
  exact ⟨_, τ', rfl, q, q2⟩
theorem ck_70 (a : Int) (σ : pS) : f_X_check_0_p70 a σ = some (a, pU σ 1 1 0) := rfl
theorem ck_lp {σ τ : pS} {A : Nat} (hA : A ≤ 64) (ht : ∀ i : Nat, i < A → σ 2 i = pAnd (τ 96 i) 255) : ∀ (d k fu1 fu2 : Nat), k + d = A → d + 1 < fu1 → d < fu2 → ∃ v w, f_X_check_0_p28 fu1 (A : Int) (-1) (k : Int) σ = some (v, pU σ 1 1 0) ∧ f_M_check_84_p28 fu2 (A : Int) (k : Int) τ = some (w, τ) ∧ ((∀ i : Nat, i < 64 → σ 26 i = τ 86 i) → v = w)
  | 0, k, fu1, fu2, hk, h1, h2 => by
    obtain ⟨m, rfl⟩ : ∃ m, fu1 = m + 1 := ⟨fu1 - 1, by omega⟩
    obtain ⟨n, rfl⟩ : ∃ n, fu2 = n + 1 := ⟨fu2 - 1, by omega⟩
    refine ⟨-1, -1, ?_, ?_, fun _ => rfl⟩
    · show (if (A : Int) ≤ (k : Int) then _ else _) = _
      rw [if_pos (by omega), ck_70]
    · show (if (A : Int) ≤ (k : Int) then _ else _) = _
      rw [if_pos (by omega)]
  | d + 1, k, fu1, fu2, hk, h1, h2 => by
    obtain ⟨m, rfl⟩ : ∃ m, fu1 = m + 1 + 1 := ⟨fu1 - 2, by omega⟩
    obtain ⟨n, rfl⟩ : ∃ n, fu2 = n + 1 := ⟨fu2 - 1, by omega⟩
    have g1 : (0 : Int) ≤ (k : Int) ∧ (k : Int) < 260 := by omega
    have g2 : (0 : Int) ≤ (k : Int) ∧ (k : Int) < 64 := by omega
    have e : pw ((k : Int) + 1) = ((k + 1 : Nat) : Int) := by rw [pw_id (by omega) (by omega)]; omega
    have eX : f_X_check_0_p28 (m + 1 + 1) (A : Int) (-1) (k : Int) σ = (if (σ 2 k) = (σ 26 k) then (f_X_check_0_p28 (m + 1) (A : Int) (-1) ((k + 1 : Nat) : Int) σ) else (f_X_check_0_p28 (m + 1) (A : Int) (k : Int) ((k + 1 : Nat) : Int) σ)) := by
      show (if (A : Int) ≤ (k : Int) then _ else _) = _
      rw [if_neg (by omega), if_pos rfl, if_pos g1, if_pos g2, Int.toNat_natCast, e]
    have eM : f_M_check_84_p28 (n + 1) (A : Int) (k : Int) τ = (if pAnd (τ 96 k) 255 = (τ 86 k) then (f_M_check_84_p28 n (A : Int) ((k + 1 : Nat) : Int) τ) else (some ((k : Int), τ))) := by
      show (if (A : Int) ≤ (k : Int) then _ else _) = _
      unfold f_M_octet_84
      rw [if_neg (by omega), if_pos g1, Option.bind_some]
      dsimp only
      rw [if_pos g2, Int.toNat_natCast, e]
    have eF : f_X_check_0_p28 (m + 1) (A : Int) (k : Int) ((k + 1 : Nat) : Int) σ = some ((k : Int), pU σ 1 1 0) := by
      show (if (A : Int) ≤ ((k + 1 : Nat) : Int) then _ else _) = _
      by_cases hz : (A : Int) ≤ ((k + 1 : Nat) : Int)
      · rw [if_pos hz, ck_70]
      · rw [if_neg hz, if_neg (by omega), ck_70]
    obtain ⟨v, w, i1, i2, i3⟩ := ck_lp hA ht d (k + 1) (m + 1) n (by omega) (by omega) (by omega)
    rw [eX, eM, eF, i1, i2, ← ht k (by omega)]
    by_cases q1 : σ 2 k = σ 26 k
    · rw [if_pos q1]
      by_cases q2 : σ 2 k = τ 86 k
      · rw [if_pos q2]
        exact ⟨v, w, rfl, rfl, i3⟩
      · rw [if_neg q2]
        exact ⟨v, _, rfl, rfl, fun h => absurd (q1.trans (h k (by omega))) q2⟩
    · rw [if_neg q1]
      by_cases q2 : σ 2 k = τ 86 k
      · rw [if_pos q2]
        exact ⟨_, w, rfl, rfl, fun h => absurd (q2.trans (h k (by omega)).symm) q1⟩
      · rw [if_neg q2]
        exact ⟨_, _, rfl, rfl, fun _ => rfl⟩
/-- check: tapes alike stay so; with memories alike the answers are equal -/
theorem check_ls {σ τ : pS} {a : Int} (h : TR σ τ) : ∃ v w σ' τ', f_X_check_0 a σ = some (v, σ') ∧ f_M_check_84 a τ = some (w, τ') ∧ TR σ' τ' ∧ ((∀ i : Nat, i < 64 → σ 26 i = τ 86 i) → v = w) ∧ FR PT σ σ' ∧ FR QT τ τ' := by
  have h' := h
  obtain ⟨t1, t2, t3⟩ := h
  by_cases hb : (0 ≤ a ∧ a ≤ 64) ∧ a ≤ σ 1 1
  · obtain ⟨hb1, hb2⟩ := hb
    obtain ⟨A, rfl⟩ : ∃ A : Nat, a = (A : Int) := ⟨a.toNat, by omega⟩
    obtain ⟨v, w, q1, q2, q3⟩ := ck_lp (σ := σ) (τ := pU τ 84 18 0) (A := A) (by omega) (fun i hi => by rw [pU_c _ _ _ _ (by decide)]; exact (t3 i (by omega)).1) A 0 4096 4096 (by omega) (by omega) (by omega)
    refine ⟨v, w, pU σ 1 1 0, pU τ 84 18 0, ?_, ?_, ⟨by rw [pU_s, pU_s], by rw [pU_s]; omega, fun i hi => by rw [pU_s] at hi; omega⟩, fun hm => q3 (fun i hi => by rw [pU_c _ _ _ _ (by decide)]; exact hm i hi), FR.u (Or.inl rfl), FR.u (Or.inr ⟨rfl, rfl⟩)⟩
    · unfold f_X_check_0
      rw [if_neg (by omega), if_neg (by omega), if_pos hb2]
      exact q1
    · unfold f_M_check_84
      rw [m_in, if_pos hb1, Option.bind_some]
      dsimp only
      rw [if_neg (by decide), if_pos (by omega)]
      exact q2
  · refine ⟨-2, -2, σ, τ, ?_, ?_, h', fun _ => rfl, FR.rf _ _, FR.rf _ _⟩
    · unfold f_X_check_0
      by_cases h1 : a < 0
      · rw [if_pos h1]
      · rw [if_neg h1]
        by_cases h2 : 64 < a
        · rw [if_pos h2]
        · rw [if_neg h2, if_neg (by omega)]
    · unfold f_M_check_84
      rw [m_in, Option.bind_some]
      dsimp only
      by_cases hc : 0 ≤ a ∧ a ≤ 64
      · rw [if_pos hc, if_neg (by decide), if_neg (by omega)]
      · rw [if_neg hc, if_pos rfl]
/-- class and reference alike: tape, program -/
def REL (σ τ : pS) : Prop := TR σ τ ∧ PRG σ τ
theorem TR.x {σ σ' τ τ' : pS} (h : TR σ τ) (h1 : ∀ k x, k < 84 → σ' k x = σ k x) (h2 : ∀ k x, 84 ≤ k → τ' k x = τ k x) : TR σ' τ' := by
  obtain ⟨a1, a2, a3⟩ := h
  unfold TR
  rw [h1 1 1 (by decide), h2 84 18 (by decide)]
  exact ⟨a1, a2, fun i hi => by rw [h1 2 i (by decide), h2 96 i (by decide)]; exact a3 i hi⟩
theorem REL.x {σ σ' τ τ' : pS} (h : REL σ τ) (h1 : ∀ k x, k < 84 → σ' k x = σ k x) (h2 : ∀ k x, 84 ≤ k → τ' k x = τ k x) : REL σ' τ' := ⟨h.1.x h1 h2, h.2.mv (h1 _ _ (by decide)) (h1 _ _ (by decide)) (fun k x a b => h1 _ _ (by omega)) (h2 _ _ (by decide)) (fun k x a b => h2 _ _ (by omega))⟩
theorem PRG.fr {σ σ' τ τ' : pS} {P Q : Nat → Nat → Prop} (h : PRG σ τ) (h1 : FR P σ σ') (h2 : FR Q τ τ') (hP : ∀ k x, 4 ≤ k → k ≤ 13 → ¬ P k x) (hQ : ¬ Q 84 2) (hQ2 : ∀ k x, 88 ≤ k → k ≤ 95 → ¬ Q k x) : PRG σ' τ' := h.mv (h1.get (hP _ _ (by decide) (by decide))) (h1.get (hP _ _ (by decide) (by decide))) (fun k x a b => h1.get (hP _ _ (by omega) (by omega))) (h2.get hQ) (fun k x a b => h2.get (hQ2 _ _ (by omega) (by omega)))
theorem rel_feed {σ τ : pS} (a b c d e : Int) (h : REL σ τ) : ∃ v σ' τ', f_X_feed_0 a b c d e σ = some (v, σ') ∧ f_M_feed_84 a b c d e τ = some (v, τ') ∧ REL σ' τ' := by
  obtain ⟨v, σ1, τ1, q1, q2, q3, q4, q5⟩ := feed_ls (σ := σ) (τ := τ) a b c d e h.1
  exact ⟨v, σ1, τ1, q1, q2, q3, h.2.fr q4 q5 (fun k x _ _ => by unfold PT; omega) (by unfold QT; omega) (fun k x _ _ => by unfold QT; omega)⟩
theorem rel_law {σ τ : pS} (a : Int) (h : REL σ τ) : ∃ v σ' τ', f_X_law_0 a σ = some (v, σ') ∧ f_M_law_84 a τ = some (v, τ') ∧ REL σ' τ' := by
  obtain ⟨v, σ1, τ1, q1, q2, q3, -, q4, q5⟩ := law_ls (σ := σ) (τ := τ) (a := a) h.1
  exact ⟨v, σ1, τ1, q1, q2, q3, h.2.fr q4 q5 (fun k x _ _ => by unfold PLx; omega) (by unfold QLx; omega) (fun k x _ _ => by unfold QLx; omega)⟩
theorem rel_program {σ τ : pS} (a : Int) (h : REL σ τ) : ∃ v σ' τ', f_X_program_0 a σ = some (v, σ') ∧ f_M_program_84 a τ = some (v, τ') ∧ REL σ' τ' := by
  obtain ⟨v, σ1, τ1, q1, q2, q3, q4, -⟩ := prog_ls (a := a) h.1 h.2
  exact ⟨v, σ1, τ1, q1, q2, q3, q4⟩
theorem rel_check {σ τ : pS} (a : Int) (h : REL σ τ) : ∃ v w σ' τ', f_X_check_0 a σ = some (v, σ') ∧ f_M_check_84 a τ = some (w, τ') ∧ REL σ' τ' := by
  obtain ⟨v, w, σ1, τ1, q1, q2, q3, -, q4, q5⟩ := check_ls (σ := σ) (τ := τ) (a := a) h.1
  exact ⟨v, w, σ1, τ1, q1, q2, q3, h.2.fr q4 q5 (fun k x _ _ => by unfold PT; omega) (by unfold QT; omega) (fun k x _ _ => by unfold QT; omega)⟩
theorem TR.y {σ τ τ' : pS} (h : TR σ τ) (h2 : ∀ k x, k ≠ 143 → τ' k x = τ k x) : TR σ τ' := by
  obtain ⟨a1, a2, a3⟩ := h
  unfold TR
  rw [h2 84 18 (by decide)]
  exact ⟨a1, a2, fun i hi => by rw [h2 96 i (by decide)]; exact a3 i hi⟩
theorem rel_deep {σ τ : pS} (h : REL σ τ) : ∃ v τ', f_X_deep_0 σ = some (v, σ) ∧ f_M_deep_84 τ = some (v, τ') ∧ REL σ τ' := by
  obtain ⟨v, τ1, q1, q2, q3⟩ := deep_ls h.2
  exact ⟨v, τ1, q1, q2, h.1.y q3 , h.2.mv rfl rfl (fun _ _ _ _ => rfl) (q3 _ _ (by decide)) (fun k x a b => q3 _ _ (by omega))⟩
