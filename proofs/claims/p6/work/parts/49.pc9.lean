def PA (k _x : Nat) : Prop := k = 1 ∨ (46 ≤ k ∧ k ≤ 52)
def QA (k x : Nat) : Prop := (k = 84 ∧ (x = 18 ∨ x = 19 ∨ x = 21 ∨ x = 22 ∨ x = 41)) ∨ (110 ≤ k ∧ k ≤ 117)
theorem CR.mv {σ σ' : pS} {j : Nat} {r : O8} (h : CR σ j r) (e : ∀ k, 46 ≤ k → k ≤ 52 → σ' k j = σ k j) : CR σ' j r := by
  unfold CR at h ⊢
  rw [e 46 (by decide) (by decide), e 47 (by decide) (by decide), e 48 (by decide) (by decide), e 49 (by decide) (by decide), e 50 (by decide) (by decide), e 51 (by decide) (by decide), e 52 (by decide) (by decide)]
  exact h
theorem MR.mv {τ τ' : pS} {j : Nat} {r : O8} (h : MR τ j r) (e : ∀ k, 110 ≤ k → k ≤ 117 → τ' k j = τ k j) : MR τ' j r := by
  unfold MR at h ⊢
  rw [e 110 (by decide) (by decide), e 111 (by decide) (by decide), e 112 (by decide) (by decide), e 113 (by decide) (by decide), e 114 (by decide) (by decide), e 115 (by decide) (by decide), e 116 (by decide) (by decide), e 117 (by decide) (by decide)]
  exact h
def m_at (fu : Nat) (τ : pS) : Option (Int × pS) := (f_M_readsOp_84 τ).bind fun q => if q.1 = 0 then f_M_program_84_p36 fu 0 q.2 else f_M_program_84_p36 fu 1 q.2
theorem m_bad (fu : Nat) (τ : pS) : f_M_program_84_p36 (fu + 1) 0 τ = some (τ 84 21, pU τ 84 18 0) := by
  rw [f_M_program_84_p36, if_pos rfl]
  unfold f_M_program_84_p76
  rw [if_pos rfl]
theorem c_flt (σ : pS) : f_Tape_fault_1 σ = some (σ 1 4, σ) := rfl
theorem c_end {T : Nat → Int} {n p : Int} {σ : pS} (h : TP σ T n p) : f_Tape_ended_1 σ = some (if p < n then 0 else 1, σ) := by
  obtain ⟨h1, h2, h3, h4⟩ := h
  unfold f_Tape_ended_1
  rw [h1, h2]
  by_cases hp : p < n
  · rw [if_pos hp, if_pos hp]
  · rw [if_neg hp, if_neg hp]
theorem pr_ls {T : Nat → Int} {n : Int} (hT : TB T n) : ∀ (d i fu1 fu2 : Nat) (p : Int) (σ τ : pS) (rec : Nat → O8), i + d = 20 → d + 1 < fu1 → d + 2 < fu2 → TP σ T n p → TM τ T n p → τ 84 41 = (i : Int) → (∀ j, j < i → CR σ j (rec j) ∧ MR τ j (rec j) ∧ VR (rec j)) →
    (∃ f σ' τ', f < 0 ∧ f_Prog_readFrom_45_1_p2 fu1 (i : Int) σ = some (f, σ') ∧ m_at fu2 τ = some (f, τ') ∧ FR PA σ σ' ∧ FR QA τ τ' ∧ τ' 84 18 = 0) ∨
    (∃ (m : Nat) (σe τe : pS) (rec' : Nat → O8), 0 < m ∧ m ≤ 20 ∧ f_Prog_readFrom_45_1_p2 fu1 (i : Int) σ = (f_Prog_findSources_45 (pU σe 45 11 (m : Int))).bind (fun q10 => some (q10.2 45 11, q10.2)) ∧ m_at fu2 τ = f_M_program_84_p76 1 τe ∧ τe 84 41 = (m : Int) ∧ (∀ j, j < m → CR σe j (rec' j) ∧ MR τe j (rec' j) ∧ VR (rec' j)) ∧ FR PA σ σe ∧ FR QA τ τe) := by
  intro d
  induction d with
  | zero =>
    intro i fu1 fu2 p σ τ rec hdd h1 h2 hP hM h41 hrec
    obtain ⟨fu1, rfl⟩ : ∃ k, fu1 = k + 1 := ⟨fu1 - 1, by omega⟩
    obtain ⟨fu2, rfl⟩ : ∃ k, fu2 = k + 1 := ⟨fu2 - 1, by omega⟩
    obtain rfl : i = 20 := by omega
    obtain ⟨σ', a1, a2, a3⟩ := c_op20 hP
    obtain ⟨τ', b1, b2, b3⟩ := m_op20 hM h41
    have hp0 := hP.2.2.1.1
    refine Or.inl ⟨σ' 1 4, σ', pU τ' 84 18 0, ?_, ?_, ?_, a3.fr (fun x => Or.inl rfl), (b3.fr (Or.inl (by decide)) (Or.inl (by decide)) (Or.inl (by decide))).tr (FR.u (Or.inl (by decide))), pU_s _ _ _ _⟩
    · rw [a2]
      split <;> omega
    · rw [f_Prog_readFrom_45_1_p2, if_neg (by omega), show ((20 : Nat) : Int) = 20 from rfl, a1, Option.bind_some]
      dsimp only
      rw [if_pos rfl, c_flt, Option.bind_some]
    · unfold m_at
      rw [b1, Option.bind_some]
      dsimp only
      rw [if_pos rfl, m_bad, b2, a2]
  | succ d ih =>
    intro i fu1 fu2 p σ τ rec hdd h1 h2 hP hM h41 hrec
    obtain ⟨fu1, rfl⟩ : ∃ k, fu1 = k + 1 := ⟨fu1 - 1, by omega⟩
    obtain ⟨fu2, rfl⟩ : ∃ k, fu2 = k + 1 := ⟨fu2 - 1, by omega⟩
    have hi : 0 ≤ (i : Int) ∧ (i : Int) < 20 := by omega
    have hcP : ∀ k x, Pc (i : Int).toNat k x → PA k x := fun k x h => by unfold Pc at h; unfold PA; omega
    have hcQ : ∀ k x, Qc (i : Int).toNat k x → QA k x := fun k x h => by unfold Qc at h; unfold QA; omega
    have ha := c_op (i := (i : Int)) hP hT hi
    have hb := m_op (i := (i : Int)) hM hi h41
    have hp0 := hP.2.2.1.1
    cases hs : sOp T n p with
    | inr f =>
      rw [hs] at ha hb
      obtain ⟨σ', a1, a2, a3⟩ := ha
      obtain ⟨τ', b1, b2, b3⟩ := hb
      have hf := sOp_f hs
      refine Or.inl ⟨f, σ', pU τ' 84 18 0, by omega, ?_, ?_, a3.mono hcP, (b3.mono hcQ).tr (FR.u (Or.inl (by decide))), pU_s _ _ _ _⟩
      · rw [f_Prog_readFrom_45_1_p2, if_neg (by omega), a1, Option.bind_some]
        dsimp only
        rw [if_pos rfl, c_flt, Option.bind_some, a2]
      · unfold m_at
        rw [b1, Option.bind_some]
        dsimp only
        rw [if_pos rfl, m_bad, b2]
    | inl q =>
      rw [hs] at ha hb
      obtain ⟨σ1, a1, a2, a3, a4⟩ := ha
      obtain ⟨τ1, b1, b2, b3, b4, b5⟩ := hb
      rw [Int.toNat_natCast] at a3 a4 b3 b5
      rw [Int.toNat_natCast] at hcP hcQ
      obtain ⟨v1, v2⟩ := sOp_i hs
      have hrec1 : ∀ j, j < i + 1 → CR σ1 j ((fun j => if j = i then q.1 else rec j) j) ∧ MR τ1 j ((fun j => if j = i then q.1 else rec j) j) ∧ VR ((fun j => if j = i then q.1 else rec j) j) := by
        intro j hj
        dsimp only
        by_cases hji : j = i
        · rw [if_pos hji, hji]
          exact ⟨a4, b5, v1⟩
        · rw [if_neg hji]
          obtain ⟨c1, c2, c3⟩ := hrec j (by omega)
          exact ⟨c1.mv (fun k h1 h2 => a3.get (by unfold Pc; omega)), c2.mv (fun k h1 h2 => b3.get (by unfold Qc; omega)), c3⟩
      by_cases hpe : q.2 < n
      · have hc := c_tak (c := 59) a2 (by decide)
        have hm := m_tak (c := 59) b2 (by decide)
        have eA : f_Prog_readFrom_45_1_p2 (fu1 + 1) (i : Int) σ = (f_Tape_accept_1 59 σ1).bind fun q7 => if q7.1 = 0 then (f_Tape_fault_1 q7.2).bind fun q9 => some (q9.1, q9.2) else f_Prog_readFrom_45_1_p2 fu1 ((i + 1 : Nat) : Int) q7.2 := by
          rw [f_Prog_readFrom_45_1_p2, if_neg (by omega), a1, Option.bind_some]
          dsimp only
          rw [if_neg (by decide), c_end a2, if_pos hpe, Option.bind_some]
          dsimp only
          rw [if_pos rfl, pw_id (by omega) (by omega)]
          rfl
        have eB : m_at (fu2 + 1) τ = (f_M_takes_84 59 τ1).bind fun q27 => if q27.1 = 0 then f_M_program_84_p36 fu2 0 q27.2 else m_at fu2 q27.2 := by
          have g1 := b2.1
          have g2 := b2.2.1
          unfold m_at
          rw [b1, Option.bind_some]
          dsimp only
          rw [if_neg (by decide), f_M_program_84_p36, if_neg (by decide), if_neg (by omega)]
        cases ht : sTak T n 59 q.2 with
        | inr f =>
          rw [ht] at hc hm
          obtain ⟨σ2, c1, c2, c3⟩ := hc
          obtain ⟨τ2, m1, m2, m3⟩ := hm
          have hf := sTak_f ht
          obtain ⟨fu3, rfl⟩ : ∃ k, fu2 = k + 1 := ⟨fu2 - 1, by omega⟩
          refine Or.inl ⟨f, σ2, pU τ2 84 18 0, by omega, ?_, ?_, (a3.mono hcP).tr (c3.fr (fun x => Or.inl rfl)), ((b3.mono hcQ).tr (m3.fr (Or.inl (by decide)) (Or.inl (by decide)) (Or.inl (by decide)))).tr (FR.u (Or.inl (by decide))), pU_s _ _ _ _⟩
          · rw [eA, c1, Option.bind_some]
            dsimp only
            rw [if_pos rfl, c_flt, Option.bind_some, c2]
          · rw [eB, m1, Option.bind_some]
            dsimp only
            rw [if_pos rfl, m_bad, m2]
        | inl p1 =>
          rw [ht] at hc hm
          obtain ⟨σ2, c1, c2, c3⟩ := hc
          obtain ⟨τ2, m1, m2, m3⟩ := hm
          have hFa : FR PA σ σ2 := (a3.mono hcP).tr (c3.fr (fun x => Or.inl rfl))
          have hFb : FR QA τ τ2 := (b3.mono hcQ).tr (m3.fr (Or.inl (by decide)) (Or.inl (by decide)) (Or.inl (by decide)))
          have hI := ih (i + 1) fu1 fu2 p1 σ2 τ2 (fun j => if j = i then q.1 else rec j) (by omega) (by omega) (by omega) c2 m2 ((m3.2 41 (by decide) (by decide) (by decide)).trans (b4.trans (by omega))) (fun j hj => by
            obtain ⟨g1, g2, g3⟩ := hrec1 j hj
            exact ⟨g1.mv (fun k h1 h2 => c3 _ _ (by omega)), g2.mv (fun k h1 h2 => m3.1 _ _ (by omega)), g3⟩)
          have e1 : f_Prog_readFrom_45_1_p2 (fu1 + 1) (i : Int) σ = f_Prog_readFrom_45_1_p2 fu1 ((i + 1 : Nat) : Int) σ2 := by
            rw [eA, c1, Option.bind_some]
            dsimp only
            rw [if_neg (by decide)]
          have e2 : m_at (fu2 + 1) τ = m_at fu2 τ2 := by
            rw [eB, m1, Option.bind_some]
            dsimp only
            rw [if_neg (by decide)]
          rw [e1, e2]
          rcases hI with ⟨f, σ', τ', k1, k2, k3, k4, k5, k6⟩ | ⟨m, σe, τe, rec', k0, k1, k2, k3, k4, k5, k6, k7⟩
          · exact Or.inl ⟨f, σ', τ', k1, k2, k3, hFa.tr k4, hFb.tr k5, k6⟩
          · exact Or.inr ⟨m, σe, τe, rec', k0, k1, k2, k3, k4, k5, hFa.tr k6, hFb.tr k7⟩
      · refine Or.inr ⟨i + 1, σ1, τ1, (fun j => if j = i then q.1 else rec j), by omega, by omega, ?_, ?_, b4.trans (by omega), hrec1, a3.mono hcP, b3.mono hcQ⟩
        · rw [f_Prog_readFrom_45_1_p2, if_neg (by omega), a1, Option.bind_some]
          dsimp only
          rw [if_neg (by decide), c_end a2, if_neg hpe, Option.bind_some]
          dsimp only
          rw [if_neg (by decide), pw_id (by omega) (by omega)]
          rfl
        · have g1 := b2.1
          have g2 := b2.2.1
          unfold m_at
          rw [b1, Option.bind_some]
          dsimp only
          rw [if_neg (by decide), f_M_program_84_p36, if_neg (by decide), if_pos (by omega)]
