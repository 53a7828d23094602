theorem m_75 {m : Nat} {D : Nat → Prop} {j : Nat} (hj : j < m) (hm : m ≤ 20) {L : List Nat} (hL : ∀ w ∈ L, w < m) (hl : L.length ≤ 20) : ∀ (W : List Nat) (a fu : Nat) (s τ : pS), a + W.length = L.length → (∀ b, W[b]? = L[a + b]?) → W.length < fu → RM m D s τ → QW 133 τ L → f_M_looksBack_84_p75 fu (j : Int) (L.length : Int) (a : Int) τ = f_M_looksBack_84_p99 4096 (L.length : Int) 0 (mmts j W τ)
  | [], a, fu, s, τ, ha, hW, hf, h, hQ => by
    obtain ⟨n, rfl⟩ : ∃ n, fu = n + 1 := ⟨fu - 1, by omega⟩
    show (if (L.length : Int) ≤ (a : Int) then _ else _) = _
    have : a + 0 = L.length := ha
    rw [if_pos (by omega)]
    rfl
  | w :: W, a, fu, s, τ, ha, hW, hf, h, hQ => by
    obtain ⟨n, rfl⟩ : ∃ n, fu = n + 1 := ⟨fu - 1, by omega⟩
    have ha' : a + (W.length + 1) = L.length := ha
    have hf' : W.length + 1 < n + 1 := hf
    have hw : L[a]? = some w := by
      have := hW 0
      rw [Nat.add_zero] at this
      exact this.symm
    have hwm := hL w (List.mem_of_getElem? hw)
    have sw := h.se w hwm
    have sj := h.se j hj
    have em : f_M_melts_84 (w : Int) (j : Int) τ = some (0, mmt w j τ) := m_melt (by omega) (by omega) (by omega) (by omega)
    have ih := m_75 hj hm hL hl W (a + 1) n (cmt w j s) (mmt w j τ) (by omega) (fun b => by
      have := hW (b + 1)
      rw [show a + (b + 1) = a + 1 + b by omega] at this
      exact this) (by omega) (melt_ls h hwm hj) (fun b x hx => by
      rw [(mmt_fr w j τ).get (k := 133) (by unfold Q_ml; omega)]
      exact hQ b x hx)
    show (if (L.length : Int) ≤ (a : Int) then _ else _) = _
    rw [if_neg (by omega), if_pos (by omega), Int.toNat_natCast, hQ a w hw, em, Option.bind_some, pw_s (show a < 20 by omega) (by decide)]
    exact ih
def P_lb (k x : Nat) : Prop := P_rq k x ∨ P_ml k x ∨ k = 43 ∨ (k = 33 ∧ x = 1)
def Q_lb (k x : Nat) : Prop := Q_rq k x ∨ Q_ml k x ∨ k = 133 ∨ (k = 84 ∧ x = 64)
theorem P_lb_N (k x : Nat) (h : P_lb k x) : PN k x := by unfold P_lb P_rq P_mw P_un P_ml at h; unfold PN; omega
theorem Q_lb_N (k x : Nat) (h : Q_lb k x) : QN k x := by unfold Q_lb Q_rq Q_mw Q_un Q_li Q_ml at h; unfold QN; omega
theorem pw_r (a : Int) : -2147483648 ≤ pw a ∧ pw a < 2147483648 := by
  unfold pw
  have h1 := Int.le_bmod (x := a) (m := 4294967296) (by decide)
  have h2 := Int.bmod_lt (x := a) (m := 4294967296) (by decide)
  omega
theorem lb_rp {m : Nat} {rec : Nat → O8} {D : Nat → Prop} {L : List Nat} (hL : ∀ w ∈ L, w < m) (hl : L.length ≤ 20) : ∀ (d a fu1 fu2 : Nat) (σ τ : pS), a + d = L.length → d < fu1 → d < fu2 → PG m rec σ τ → RM m D σ τ → T2 m σ → GV m D σ → QW 43 σ L → QW 133 τ L → -2147483648 ≤ σ 33 1 ∧ σ 33 1 < 2147483648 →
    ∃ σ' τ', f_Mach_lookBack_3_p76 fu1 (L.length : Int) (a : Int) σ = some (0, σ') ∧ f_M_looksBack_84_p99 fu2 (L.length : Int) (a : Int) τ = some (0, τ') ∧ PG m rec σ' τ' ∧ RM m D σ' τ' ∧ T2 m σ' ∧ GV m D σ' ∧ σ' 33 1 = pw (σ 33 1 + (d : Int)) ∧ FR P_lb σ σ' ∧ FR Q_rq τ τ'
  | 0, a, fu1, fu2, σ, τ, ha, h1, h2, hG, h, hT, hV, hQ, hR, hw => by
    obtain ⟨n1, rfl⟩ : ∃ n, fu1 = n + 1 := ⟨fu1 - 1, by omega⟩
    obtain ⟨n2, rfl⟩ : ∃ n, fu2 = n + 1 := ⟨fu2 - 1, by omega⟩
    refine ⟨σ, τ, ?_, ?_, hG, h, hT, hV, (pw_id (by omega) (by omega)).symm.trans (by rw [show σ 33 1 + ((0 : Nat) : Int) = σ 33 1 by omega]), FR.rf _ _, FR.rf _ _⟩
    · show (if (L.length : Int) ≤ (a : Int) then _ else _) = _
      rw [if_pos (by omega)]
    · show (if (L.length : Int) ≤ (a : Int) then _ else _) = _
      rw [if_pos (by omega)]
  | d + 1, a, fu1, fu2, σ, τ, ha, h1, h2, hG, h, hT, hV, hQ, hR, hw => by
    obtain ⟨n1, rfl⟩ : ∃ n, fu1 = n + 1 := ⟨fu1 - 1, by omega⟩
    obtain ⟨n2, rfl⟩ : ∃ n, fu2 = n + 1 := ⟨fu2 - 1, by omega⟩
    have hm := hG.le
    have haL : a < L.length := by omega
    obtain ⟨w, hw1⟩ : ∃ w, L[a]? = some w := ⟨L[a], List.getElem?_eq_getElem haL⟩
    have hwm := hL w (List.mem_of_getElem? hw1)
    have a20 : a < 20 := by omega
    have ga : (0 : Int) ≤ (a : Int) ∧ (a : Int) < 20 := by omega
    have gw : (0 : Int) ≤ (w : Int) ∧ (w : Int) < 20 := by omega
    have gn : ¬ (L.length : Int) ≤ (a : Int) := by omega
    have sw := h.st w hwm
    have f0 : FR P_lb σ (pU σ 33 1 (pw (σ 33 1 + 1))) := FR.u (Or.inr (Or.inr (Or.inr ⟨rfl, rfl⟩)))
    have hG0 : PG m rec (pU σ 33 1 (pw (σ 33 1 + 1))) τ := hG.fr (f0.mono P_lb_N) (FR.rf _ _)
    have h0 : RM m D (pU σ 33 1 (pw (σ 33 1 + 1))) τ := h.es (FR.u (by unfold P_sno; omega))
    have hT0 : T2 m (pU σ 33 1 (pw (σ 33 1 + 1))) := fun x hx z => by
      rw [pU_c _ _ _ _ (by decide)] at z ⊢
      exact hT x hx z
    have hV0 : GV m D (pU σ 33 1 (pw (σ 33 1 + 1))) := hV.fr (fun k x hk => pU_c _ _ _ _ (by omega))
    have hQ0 : QW 43 (pU σ 33 1 (pw (σ 33 1 + 1))) L := fun b x hx => (pU_c _ _ _ _ (by decide)).trans (hQ b x hx)
    have r0 : -2147483648 ≤ pU σ 33 1 (pw (σ 33 1 + 1)) 33 1 ∧ pU σ 33 1 (pw (σ 33 1 + 1)) 33 1 < 2147483648 := by
      rw [pU_s]
      exact pw_r _
    have cnt : ∀ σ9 : pS, σ9 33 1 = pU σ 33 1 (pw (σ 33 1 + 1)) 33 1 → pw (σ9 33 1 + (d : Int)) = pw (σ 33 1 + ((d + 1 : Nat) : Int)) := fun σ9 e9 => by
      rw [e9, pU_s, pw_pw, show σ 33 1 + 1 + (d : Int) = σ 33 1 + ((d + 1 : Nat) : Int) by omega]
    have eX : f_Mach_lookBack_3_p76 (n1 + 1) (L.length : Int) (a : Int) σ = (if σ 39 w = 0 then f_Mach_lookBack_3_p76 n1 (L.length : Int) ((a + 1 : Nat) : Int) (pU σ 33 1 (pw (σ 33 1 + 1))) else ((f_Mach_replay_3 (w : Int) (pU σ 33 1 (pw (σ 33 1 + 1)))).bind fun q7 => (f_Mach_lookBack_3_p76 n1 (L.length : Int) ((a + 1 : Nat) : Int) q7.2))) := by
      show (if (L.length : Int) ≤ (a : Int) then _ else _) = _
      rw [if_neg gn, if_pos ga, Int.toNat_natCast, hQ a w hw1, if_pos gw, if_pos ga, Int.toNat_natCast, pw_s a20 (by decide)]
    have eM : f_M_looksBack_84_p99 (n2 + 1) (L.length : Int) (a : Int) τ = (if σ 39 w = 0 then f_M_looksBack_84_p99 n2 (L.length : Int) ((a + 1 : Nat) : Int) τ else ((f_M_replaysAll_84 (w : Int) τ).bind fun q8 => (f_M_looksBack_84_p99 n2 (L.length : Int) ((a + 1 : Nat) : Int) q8.2))) := by
      show (if (L.length : Int) ≤ (a : Int) then _ else _) = _
      rw [if_neg gn, if_pos ga, Int.toNat_natCast, hR a w hw1, if_pos gw, if_pos ga, Int.toNat_natCast, pw_s a20 (by decide), sw.1]
    rw [eX, eM]
    by_cases hz : σ 39 w = 0
    · rw [if_pos hz, if_pos hz]
      obtain ⟨σ', τ', q1, q2, q3, q4, q5, q6, q7, q8, q9⟩ := lb_rp hL hl d (a + 1) n1 n2 _ τ (by omega) (by omega) (by omega) hG0 h0 hT0 hV0 hQ0 hR r0
      exact ⟨σ', τ', q1, q2, q3, q4, q5, q6, q7.trans (cnt _ rfl), f0.tr q8, q9⟩
    · rw [if_neg hz, if_neg hz]
      obtain ⟨σ1, τ1, c1, c2, c3, c4, c5, c6, c7⟩ := rp_ls hG0 h0 hT0 hV0 hwm (by rw [pU_c _ _ _ _ (by decide)]; exact hz)
      rw [c1, c2, Option.bind_some, Option.bind_some]
      have k33 : σ1 33 1 = pU σ 33 1 (pw (σ 33 1 + 1)) 33 1 := c6.get (by unfold P_rq P_mw P_un; omega)
      obtain ⟨σ', τ', q1, q2, q3, q4, q5, q6, q7, q8, q9⟩ := lb_rp hL hl d (a + 1) n1 n2 σ1 τ1 (by omega) (by omega) (by omega) c3 c4 c5 (hV0.fr (fun k x hk => c6.get (by unfold P_rq P_mw P_un; omega))) (fun b x hx => (c6.get (by unfold P_rq P_mw P_un; omega)).trans (hQ0 b x hx)) (fun b x hx => (c7.get (by unfold Q_rq Q_mw Q_un Q_li; omega)).trans (hR b x hx)) (by rw [k33]; exact r0)
      exact ⟨σ', τ', q1, q2, q3, q4, q5, q6, q7.trans (cnt _ k33), (f0.tr (c6.mono (fun k x hh => Or.inl hh))).tr q8, c7.tr q9⟩
/-- wrong loads are counted alike -/
def CW (σ τ : pS) : Prop := σ 33 1 = τ 84 64 ∧ -2147483648 ≤ σ 33 1 ∧ σ 33 1 < 2147483648
/-- a store looks back: the same in both -/
theorem lb_ls {m : Nat} {rec : Nat → O8} {D : Nat → Prop} {σ τ : pS} {j : Nat} (hG : PG m rec σ τ) (h : RM m D σ τ) (hT : T2 m σ) (hV : GV m D σ) (hC : CW σ τ) (hj : j < m) (hD : D j) (hk3 : σ 5 j = 3) : ∃ σ' τ', f_Mach_lookBack_3 (j : Int) σ = some (0, σ') ∧ f_M_looksBack_84 (j : Int) τ = some (0, τ') ∧ PG m rec σ' τ' ∧ RM m D σ' τ' ∧ T2 m σ' ∧ GV m D σ' ∧ CW σ' τ' ∧ FR P_lb σ σ' ∧ FR Q_lb τ τ' := by
  have hm := hG.le
  obtain ⟨ws, σ1, a1, a2, a3, a4⟩ := c_lb6 hj (m - (j + 1)) (j + 1) 4096 σ σ τ [] (by omega) (by omega) hG h (fun _ _ _ => rfl) (fun a x hx => by simp at hx) (by simp)
  obtain ⟨ws', τ1, b1, b2, b3, b4⟩ := m_lb6 hj hD hk3 (m - (j + 1)) (j + 1) 4096 τ [] (by omega) (by omega) hG h (fun a x hx => by simp at hx) (by simp)
  have ew : ws' = ws := by
    have aux : ∀ {p : Nat → Prop} {d k : Nat} {A B : List Nat}, Fl p k d A → Fl p k d B → A = B := by
      intro p d
      induction d with
      | zero => intro k A B x y; rw [x.iv0, y.iv0]
      | succ d ih =>
        intro k A B x y
        rcases x.iv with ⟨x1, A', rfl, x2⟩ | ⟨x1, x2⟩
        · rcases y.iv with ⟨y1, B', rfl, y2⟩ | ⟨y1, y2⟩
          · rw [ih x2 y2]
          · exact absurd x1 y1
        · rcases y.iv with ⟨y1, B', rfl, y2⟩ | ⟨y1, y2⟩
          · exact absurd y1 x1
          · exact ih x2 y2
    exact aux b2 a2
  subst ew
  rw [List.nil_append] at a1 a4 b1 b4
  have hw : ∀ w ∈ ws', w < m := fun w hw => by
    have := (a2.mem w).mp hw
    omega
  have hl : ws'.length ≤ 20 := by
    have := a2.len
    omega
  have f1 : FR Q_lb τ (pU τ1 84 64 (pw (τ 84 64 + (ws'.length : Int)))) := (b3.mono (fun k x hh => Or.inr (Or.inr (Or.inl hh)))).tr (FR.u (Or.inr (Or.inr (Or.inr ⟨rfl, rfl⟩))))
  have f1s : FR Q_sno τ (pU τ1 84 64 (pw (τ 84 64 + (ws'.length : Int)))) := (b3.mono (fun k x hh => by have hh : k = 133 := hh; unfold Q_sno; omega)).tr (FR.u (by unfold Q_sno; omega))
  have h1 := h.sno (FR.rf _ σ) f1s
  have e75 := m_75 hj hm hw hl ws' 0 4096 σ _ (by omega) (fun b => by rw [Nat.zero_add]) (by omega) h1 (fun b x hx => (pU_c _ _ _ _ (by decide)).trans (b4 b x hx))
  have h2 := melts_ls hj ws' h1 hw
  have hE : FR P_sno (cmts j ws' σ) σ1 := fun k x => by
    by_cases hk : k = 43
    · exact Or.inl (by unfold P_sno; omega)
    · exact Or.inr (a3 k x hk)
  have h3 := h2.es hE
  have g1 : FR P_lb σ σ1 := fun k x => by
    by_cases hk : k = 43
    · exact Or.inl (Or.inr (Or.inr (Or.inl hk)))
    · rcases cmts_fr j ws' σ k x with z | z
      · exact Or.inl (Or.inr (Or.inl z))
      · exact Or.inr ((a3 k x hk).trans z)
  have g2 : FR Q_lb τ (mmts j ws' (pU τ1 84 64 (pw (τ 84 64 + (ws'.length : Int))))) := f1.tr ((mmts_fr j ws' _).mono (fun k x hh => Or.inr (Or.inl hh)))
  have k33 : σ1 33 1 = σ 33 1 := (a3 33 1 (by decide)).trans ((cmts_fr j ws' σ).get (by unfold P_ml; omega))
  have hT1 : T2 m σ1 := fun x hx z => by
    rw [a3 41 x (by decide), (cmts_fr j ws' σ).get (by unfold P_ml; omega)] at z
    rw [a3 39 x (by decide), (cmts_fr j ws' σ).get (by unfold P_ml; omega)]
    exact hT x hx z
  obtain ⟨σ', τ', q1, q2, q3, q4, q5, q6, q7, q8, q9⟩ := lb_rp hw hl ws'.length 0 4096 4096 σ1 _ (by omega) (by omega) (by omega) (hG.fr (g1.mono P_lb_N) (g2.mono Q_lb_N)) h3 hT1 (hV.fr (fun k x hk => (a3 k x (by omega)).trans ((cmts_fr j ws' σ).get (by unfold P_ml; omega)))) a4 (fun b x hx => ((mmts_fr j ws' _).get (by unfold Q_ml; omega)).trans ((pU_c _ _ _ _ (by decide)).trans (b4 b x hx))) (by rw [k33]; exact hC.2)
  refine ⟨σ', τ', ?_, ?_, q3, q4, q5, q6, ⟨?_, ?_⟩, g1.tr q8, g2.tr (q9.mono (fun k x hh => Or.inl hh))⟩
  · unfold f_Mach_lookBack_3
    rw [pw_s (show j < 20 by omega) (by decide)]
    exact a1.trans q1
  · unfold f_M_looksBack_84
    rw [pw_s (show j < 20 by omega) (by decide)]
    exact b1.trans (e75.trans q2)
  · rw [q7, k33, q9.get (k := 84) (x := 64) (by unfold Q_rq Q_mw Q_un Q_li; omega), (mmts_fr j ws' _).get (k := 84) (x := 64) (by unfold Q_ml; omega), pU_s, hC.1]
  · rw [q7]
    exact pw_r _
