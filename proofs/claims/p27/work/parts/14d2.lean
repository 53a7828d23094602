/-- what a replay may write -/
def P_rq (k x : Nat) : Prop := P_mw k x ∨ k = 44
def Q_rq (k x : Nat) : Prop := Q_mw k x ∨ Q_li k x
theorem P_rq_N (k x : Nat) (h : P_rq k x) : PN k x := by unfold P_rq P_mw P_un at h; unfold PN; omega
theorem Q_rq_N (k x : Nat) (h : Q_rq k x) : QN k x := by unfold Q_rq Q_mw Q_un Q_li at h; unfold QN; omega
theorem dep_cg {σ σ' : pS} {k j : Nat} (h1 : FR P_rq σ σ') (h2 : σ' 39 k = σ 39 k) : dep σ' k j ↔ dep σ k j := by
  have a : ∀ q x, (q = 12 ∨ q = 13 ∨ q = 5 ∨ q = 7 ∨ q = 38) → σ' q x = σ q x := fun q x hq => h1.get (by unfold P_rq P_mw P_un; omega)
  unfold dep tkf
  rw [a 12 _ (by omega), a 13 _ (by omega), a 5 _ (by omega), a 7 _ (by omega), h2]
  constructor
  · rintro (q | q | ⟨q1, q2, e, e1, e2, e3⟩)
    · exact Or.inl q
    · exact Or.inr (Or.inl q)
    · rw [a 38 _ (by omega)] at e3
      exact Or.inr (Or.inr ⟨q1, q2, e, e1, e2, e3⟩)
  · rintro (q | q | ⟨q1, q2, e, e1, e2, e3⟩)
    · exact Or.inl q
    · exact Or.inr (Or.inl q)
    · rw [← a 38 _ (by omega)] at e3
      exact Or.inr (Or.inr ⟨q1, q2, e, e1, e2, e3⟩)
/-- the class's queue -/
def QC (σ : pS) (F : List Nat) : Prop := ∀ (a x : Nat), F[a]? = some x → σ 44 a = (x : Int)
/-- one in the queue: those that rest on it come into the queue -/
theorem c_in {m : Nat} {rec : Nat → O8} {D : Nat → Prop} {q i : Nat} {K : Int → Int → pS → Option (Int × pS)} (hi : i < 20) : ∀ (d k fu : Nat) (σ τ : pS) (F : List Nat), k + d = m → d < fu → PG m rec σ τ → RM m D σ τ → T2 m σ → QC σ F → F[i]? = some q → F.Nodup → (∀ x ∈ F, x < m ∧ σ 39 x = 0) →
    ∃ σ' τ' ks, f_Mach_replay_3_p37 K fu (F.length : Int) (i : Int) (k : Int) σ = K ((F ++ ks).length : Int) ((i + 1 : Nat) : Int) σ' ∧ Fl (fun x => σ 39 x ≠ 0 ∧ dep σ x q) k d ks ∧ mks ks τ = some τ' ∧ PG m rec σ' τ' ∧ RM m D σ' τ' ∧ T2 m σ' ∧ QC σ' (F ++ ks) ∧ (F ++ ks).Nodup ∧ (∀ x ∈ F ++ ks, x < m ∧ σ' 39 x = 0) ∧ (∀ x, x ∉ ks → σ' 39 x = σ 39 x) ∧ FR P_rq σ σ'
  | 0, k, fu, σ, τ, F, hk, hf, hG, h, hT, hQ, hq, hn, hF => by
    obtain ⟨n, rfl⟩ : ∃ n, fu = n + 1 := ⟨fu - 1, by omega⟩
    refine ⟨σ, τ, [], ?_, .nil k, rfl, hG, h, hT, by rw [List.append_nil]; exact hQ, by rw [List.append_nil]; exact hn, by rw [List.append_nil]; exact hF, fun _ _ => rfl, FR.rf _ _⟩
    show (if σ 4 11 ≤ (k : Int) then _ else _) = _
    rw [hG.cm, if_pos (by omega), pw_s hi (by decide), List.append_nil]
  | d + 1, k, fu, σ, τ, F, hk, hf, hG, h, hT, hQ, hq, hn, hF => by
    obtain ⟨n, rfl⟩ : ∃ n, fu = n + 1 := ⟨fu - 1, by omega⟩
    have hm := hG.le
    have g : (0 : Int) ≤ (k : Int) ∧ (k : Int) < 20 := by omega
    have gi : (0 : Int) ≤ (i : Int) ∧ (i : Int) < 20 := by omega
    have hkm : k < m := by omega
    have hFl := nd_le m F hn (fun x hx => (hF x hx).1)
    have e1 : pw ((k : Int) + 1) = ((k + 1 : Nat) : Int) := pw_s (show k < 20 by omega) (by decide)
    obtain ⟨b, b1, b2⟩ := c_dep hG (j := q) hkm
    have eX : f_Mach_replay_3_p37 K (n + 1) (F.length : Int) (i : Int) (k : Int) σ = (if σ 39 k = 0 then (f_Mach_replay_3_p37 K n (F.length : Int) (i : Int) ((k + 1 : Nat) : Int) σ) else (if (20 : Int) ≤ (F.length : Int) then (f_Mach_replay_3_p37 K n (F.length : Int) (i : Int) ((k + 1 : Nat) : Int) σ) else (if b = 0 then (f_Mach_replay_3_p37 K n (F.length : Int) (i : Int) ((k + 1 : Nat) : Int) σ) else ((f_Mach_makeWait_3 (k : Int) σ).bind fun q12 => (if 0 ≤ (F.length : Int) ∧ (F.length : Int) < 20 then (f_Mach_replay_3_p37 K n (pw ((F.length : Int) + 1)) (i : Int) ((k + 1 : Nat) : Int) (pU q12.2 44 F.length (k : Int))) else none))))) := by
      show (if σ 4 11 ≤ (k : Int) then _ else _) = _
      rw [hG.cm, if_neg (by omega), if_pos g, Int.toNat_natCast, e1, if_pos gi, Int.toNat_natCast, hQ i q hq, b1, Option.bind_some, Int.toNat_natCast]
    by_cases h0 : σ 39 k = 0
    · obtain ⟨σ', τ', ks, c1, c2, c3⟩ := c_in hi d (k + 1) n σ τ F (by omega) (by omega) hG h hT hQ hq hn hF
      refine ⟨σ', τ', ks, ?_, .no (fun z => z.1 h0) c2, c3⟩
      rw [eX, if_pos h0]
      exact c1
    · have hkF : k ∉ F := fun z => h0 (hF k z).2
      have hl : F.length < m := by
        have := nd_le m (k :: F) (List.nodup_cons.mpr ⟨hkF, hn⟩) (fun x hx => by
          rcases List.mem_cons.mp hx with rfl | z
          · exact hkm
          · exact (hF x z).1)
        simp at this
        omega
      rcases b2 with ⟨z1, z2⟩ | ⟨z1, z2⟩
      · obtain ⟨σ1, τ1, d1, d2, d3, d4, d5, d6, d7, d8⟩ := mw_ls hG h hT hkm
        have fq : FR P_rq σ (pU σ1 44 F.length (k : Int)) := (d5.mono (fun k x hh => Or.inl hh)).tr (FR.u (Or.inr rfl))
        have hG1 : PG m rec (pU σ1 44 F.length (k : Int)) τ1 := hG.fr (fq.mono P_rq_N) (d6.mono Q_mw_N)
        have h1 : RM m D (pU σ1 44 F.length (k : Int)) τ1 := d3.sno (FR.u (by unfold P_sno; omega)) (FR.rf _ _)
        have s39 : ∀ x, pU σ1 44 F.length (k : Int) 39 x = if x = k then 0 else σ 39 x := fun x => (pU_c _ _ _ _ (by decide)).trans (d7 x)
        have hT1 : T2 m (pU σ1 44 F.length (k : Int)) := fun x hx z => by
          rw [pU_c _ _ _ _ (by decide)] at z ⊢
          exact d4 x hx z
        obtain ⟨σ', τ', ks, c1, c2, c3, c4, c5, c6, c7, c8, c9, c10, c11⟩ := c_in hi (q := q) (K := K) d (k + 1) n (pU σ1 44 F.length (k : Int)) τ1 (F ++ [k]) (by omega) (by omega) hG1 h1 hT1 (fun a x hx => by
          by_cases ha : a = F.length
          · rw [ha, List.getElem?_append_right (Nat.le_refl _)] at hx
            simp at hx
            rw [ha, pU_s, hx]
          · have h1 : a < F.length := by
              have := (List.getElem?_eq_some_iff.mp hx).1
              rw [List.length_append] at this
              simp at this
              omega
            rw [List.getElem?_append_left h1] at hx
            rw [pU_i _ _ _ _ ha, d5.get (by unfold P_mw P_un; omega)]
            exact hQ a x hx) (by
          rw [List.getElem?_append_left (List.getElem?_eq_some_iff.mp hq).1]
          exact hq) (by
          rw [List.nodup_append]
          refine ⟨hn, by simp, fun a ha b hb => ?_⟩
          simp at hb
          rw [hb]
          exact fun e => hkF (e ▸ ha)) (fun x hx => by
          rw [List.mem_append] at hx
          rw [s39]
          rcases hx with hx | hx
          · have := hF x hx
            refine ⟨this.1, ?_⟩
            split
            · rfl
            · exact this.2
          · simp at hx
            rw [hx, if_pos rfl]
            exact ⟨hkm, rfl⟩)
        have hks : k ∉ ks := fun z => by
          have := (c2.mem k).mp z
          omega
        refine ⟨σ', τ', k :: ks, ?_, .yes ⟨h0, z2⟩ (c2.cg (fun x p1 p2 => by
          rw [s39, if_neg (by omega)]
          rw [dep_cg fq (by rw [s39, if_neg (by omega)])])), ?_, c4, c5, c6, by rw [List.append_assoc] at c7; exact c7, by rw [List.append_assoc] at c8; exact c8, by rw [List.append_assoc] at c9; exact c9, fun x hx => ?_, fq.tr c11⟩
        · rw [eX, if_neg h0, if_neg (by omega), if_neg (by omega), d1, Option.bind_some, if_pos (by omega), pw_s (show F.length < 20 by omega) (by decide)]
          rw [List.append_assoc] at c1
          have el : ((F ++ [k]).length : Int) = ((F.length + 1 : Nat) : Int) := by simp
          rw [el] at c1
          exact c1
        · show (mMk k τ).bind (mks ks) = _
          rw [d2]
          exact c3
        · rw [List.mem_cons] at hx
          rw [c10 x (fun z => hx (Or.inr z)), s39, if_neg (fun z => hx (Or.inl z))]
      · obtain ⟨σ', τ', ks, c1, c2, c3⟩ := c_in hi d (k + 1) n σ τ F (by omega) (by omega) hG h hT hQ hq hn hF
        refine ⟨σ', τ', ks, ?_, .no (fun z => z2 z.2) c2, c3⟩
        rw [eX, if_neg h0, if_neg (by omega), if_pos z1]
        exact c1
theorem FR.lk {P : Nat → Nat → Prop} {a b c d : pS} (h1 : FR P a b) (h2 : FR P a c) (h3 : FR P b d) : FR P c d := fun k x => by
  rcases h1 k x with h | e1
  · exact Or.inl h
  · rcases h2 k x with h | e2
    · exact Or.inl h
    · rcases h3 k x with h | e3
      · exact Or.inl h
      · exact Or.inr (by rw [e3, e1, e2])
theorem GV.fr {m : Nat} {D : Nat → Prop} {σ σ' : pS} (h : GV m D σ) (a : ∀ k x, (k = 5 ∨ k = 7 ∨ k = 38) → σ' k x = σ k x) : GV m D σ' := by
  intro k hk hD h5 e he
  rw [a 5 _ (by omega)] at h5
  rw [a 7 _ (by omega)] at he
  rw [a 38 _ (by omega), a 5 _ (by omega)]
  exact h k hk hD h5 e he
/-- the queue of the class and the list of the reference, gone through -/
theorem rp_lp {m : Nat} {rec : Nat → O8} {D : Nat → Prop} : ∀ (N fu1 fu2 : Nat) (s σ τ τh : pS) (A Q P R : List Nat), P.length + N = 400 → 20 < A.length + fu1 → N < fu2 → PG m rec s τ → RM m D s τ → T2 m s → GV m D s → mks Q τ = some τh → PG m rec σ τh → RM m D σ τh → T2 m σ → FR P_rq s σ → (∀ x, σ 39 x = if x ∈ Q then 0 else s 39 x) → QC σ (A ++ Q) → (A ++ Q).Nodup → (∀ x ∈ A ++ Q, x < m ∧ σ 39 x = 0) → RLt τ (P ++ R) → FO (fun x => τ 118 x = 0) R Q → (∀ x ∈ R, x < m) → (P ++ R).length ≤ 1 + 19 * A.length →
    ∃ σ' τ', f_Mach_replay_3_p16 fu1 ((A ++ Q).length : Int) (A.length : Int) σ = some (0, σ') ∧ f_M_replaysAll_84_p12 fu2 (P.length : Int) τ = some (0, τ') ∧ PG m rec σ' τ' ∧ RM m D σ' τ' ∧ T2 m σ' ∧ FR P_rq σ σ' ∧ FR Q_rq τ τ' := by
  intro N
  induction N with
  | zero =>
    intro fu1 fu2 s σ τ τh A Q P R hN h1 h2 hG h hT hV hk hGh hh hTh hfr hst hq hnd hF hL hFO hR hlen
    have := nd_le m (A ++ Q) hnd (fun x hx => (hF x hx).1)
    have := hG.le
    rw [List.length_append] at *
    omega
  | succ N ih =>
    intro fu1 fu2 s σ τ τh A Q P R hN h1 h2 hG h hT hV hk hGh hh hTh hfr hst hq hnd hF hL hFO hR hlen
    have hm := hG.le
    have hAQ := nd_le m (A ++ Q) hnd (fun x hx => (hF x hx).1)
    rw [List.length_append] at hAQ
    obtain ⟨n2, rfl⟩ : ∃ n, fu2 = n + 1 := ⟨fu2 - 1, by omega⟩
    obtain ⟨n1, rfl⟩ : ∃ n, fu1 = n + 1 := ⟨fu1 - 1, by omega⟩
    cases R with
    | nil =>
      cases hFO.iv0
      cases hk
      refine ⟨σ, τ, ?_, ?_, hGh, hh, hTh, FR.rf _ _, FR.rf _ _⟩
      · show (if ((A ++ []).length : Int) ≤ (A.length : Int) then _ else _) = _
        rw [List.append_nil, if_pos (Int.le_refl _)]
      · show (if τ 84 72 ≤ (P.length : Int) then _ else _) = _
        rw [hL.1, List.append_nil, if_pos (Int.le_refl _)]
    | cons x R' =>
      rcases hFO.iv with ⟨hS, hFO'⟩ | ⟨hS, Q', rfl, hFO'⟩
      ·
        have hx := hR x List.mem_cons_self
        have hlx : τ 131 P.length = (x : Int) := hL.2 P.length x (by rw [List.getElem?_append_right (Nat.le_refl _)]; simp)
        have eP : (P ++ [x]) ++ R' = P ++ x :: R' := by rw [List.append_assoc]; rfl
        have hlen' : P.length + (R'.length + 1) ≤ 1 + 19 * A.length := by rw [List.length_append] at hlen; exact hlen
        obtain ⟨σ', τ', q1, q2, q3⟩ := ih (n1 + 1) n2 s σ τ τh A Q (P ++ [x]) R' (by rw [List.length_append]; simp; omega) h1 (by omega) hG h hT hV hk hGh hh hTh hfr hst hq hnd hF (by rw [eP]; exact hL) hFO' (fun y hy => hR y (List.mem_cons_of_mem _ hy)) (by rw [eP]; exact hlen)
        refine ⟨σ', τ', q1, ?_, q3⟩
        have e1 : ((P ++ [x]).length : Int) = ((P.length + 1 : Nat) : Int) := by rw [List.length_append]; simp
        rw [e1] at q2
        show (if τ 84 72 ≤ (P.length : Int) then _ else _) = _
        rw [hL.1, if_neg (by rw [List.length_append]; simp; omega), if_pos (by omega), Int.toNat_natCast, hlx, if_pos (by omega), Int.toNat_natCast, if_pos hS, pw_s (show P.length < 400 by omega) (by decide)]
        exact q2
      ·
        have hx := hR x List.mem_cons_self
        have gx : (0 : Int) ≤ (x : Int) ∧ (x : Int) < 20 := by omega
        have hlx : τ 131 P.length = (x : Int) := hL.2 P.length x (by rw [List.getElem?_append_right (Nat.le_refl _)]; simp)
        have hlen' : P.length + (R'.length + 1) ≤ 1 + 19 * A.length := by rw [List.length_append] at hlen; exact hlen
        have hAl : A.length < m := by
          simp at hAQ
          omega
        have eP : (P ++ [x]) ++ (R' ++ []) = P ++ x :: R' := by rw [List.append_nil, List.append_assoc]; rfl
        -- the reference
        obtain ⟨τ1, ks, a1, a2, a3, a4⟩ := m_lst hx hV (m - (x + 1)) (x + 1) 4096 τ (P ++ x :: R') (by omega) (by omega) hG h hL (by rw [List.length_append]; simp; omega)
        obtain ⟨s2, τ2, b1, b2, b3, b4, b5, b6, b7, b8⟩ := mw_ls hG h hT hx
        have o1 := ov_of a4
        have o2 : mMk x τ1 = some (ov τ2 (τ1 131) (τ1 84 72)) := by
          rw [o1, mMk_ov, b2]
          rfl
        have lo : ∀ t : pS, FR Q_li t (ov t (τ1 131) (τ1 84 72)) := fun t k y => by
          by_cases hh : Q_li k y
          · exact Or.inl hh
          · exact Or.inr (ov_g _ _ _ (by unfold Q_li at hh; omega) (by unfold Q_li at hh; omega))
        have ls : ∀ t : pS, FR Q_sno t (ov t (τ1 131) (τ1 84 72)) := fun t => (lo t).mono (fun k y hh => by unfold Q_li at hh; unfold Q_sno; omega)
        have lN : ∀ t : pS, FR QN t (ov t (τ1 131) (τ1 84 72)) := fun t => (lo t).mono (fun k y hh => by unfold Q_li at hh; unfold QN; omega)
        -- the class
        have hk' : mks Q' τ2 = some τh := by
          have : (mMk x τ).bind (mks Q') = some τh := hk
          rw [b2] at this
          exact this
        obtain ⟨σ', τh', ks', c1, c2, c3, c4, c5, c6, c7, c8, c9, c10, c11⟩ := c_in (show A.length < 20 by omega) (q := x) (K := f_Mach_replay_3_p16 n1) (m - (x + 1)) (x + 1) 4096 σ τh (A ++ x :: Q') (by omega) (by omega) hGh hh hTh hq (by rw [List.getElem?_append_right (Nat.le_refl _)]; simp) hnd hF
        have eF : (A ++ x :: Q') ++ ks' = (A ++ [x]) ++ (Q' ++ ks') := by rw [List.append_assoc, List.append_assoc]; rfl
        have eL : (P ++ x :: R') ++ ks = (P ++ [x]) ++ (R' ++ ks) := by rw [List.append_assoc, List.append_assoc]; rfl
        have hkl := a2.len
        have sx : ∀ y, y < m → σ 39 y ≠ 0 → (y ∉ x :: Q' ∧ σ 39 y = s 39 y) := fun y hy hne => by
          have := hst y
          by_cases hyq : y ∈ x :: Q'
          · rw [if_pos hyq] at this
            exact absurd this hne
          · rw [if_neg hyq] at this
            exact ⟨hyq, this⟩
        obtain ⟨σe, τe, q1, q2, q3, q4, q5, q6, q7⟩ := ih n1 n2 s2 σ' (ov τ2 (τ1 131) (τ1 84 72)) (ov τh' (τ1 131) (τ1 84 72)) (A ++ [x]) (Q' ++ ks') (P ++ [x]) (R' ++ ks) (by rw [List.length_append]; simp; omega) (by rw [List.length_append]; simp; omega) (by omega)
          (hG.fr (b5.mono P_mw_N) ((b6.mono Q_mw_N).tr (lN _))) (b3.sno (FR.rf _ _) (ls _)) b4 (hV.fr (fun k y hk => b5.get (by unfold P_mw P_un; omega)))
          (by rw [mks_app, mks_ov, hk']; show (mks ks' (ov τh (τ1 131) (τ1 84 72))) = _; rw [mks_ov, c3]; rfl)
          (c4.fr (FR.rf _ _) (lN _)) (c5.sno (FR.rf _ _) (ls _)) c6
          (FR.lk hfr (b5.mono (fun k y hh => Or.inl hh)) c11)
          (fun y => by
            have hy := hst y
            by_cases y1 : y ∈ ks'
            · rw [if_pos (List.mem_append_right _ y1)]
              exact (c9 y (List.mem_append_right _ y1)).2
            · rw [c10 y y1, hy, b7 y]
              by_cases y2 : y ∈ Q'
              · rw [if_pos (List.mem_cons_of_mem _ y2), if_pos (List.mem_append_left _ y2)]
              · rw [if_neg (show y ∉ Q' ++ ks' from fun z => (List.mem_append.mp z).elim y2 y1)]
                by_cases y3 : y = x
                · rw [if_pos y3, if_pos (List.mem_cons.mpr (Or.inl y3))]
                · rw [if_neg y3, if_neg (fun z => (List.mem_cons.mp z).elim y3 y2)])
          (by rw [← eF]; exact c7) (by rw [← eF]; exact c8) (fun y hy => c9 y (by rw [eF]; exact hy))
          (by
            rw [← eL]
            refine ⟨?_, fun a y hy => ?_⟩
            · show (if (84 : Nat) = 131 then _ else if (84 : Nat) = 84 ∧ (72 : Nat) = 72 then _ else _) = _
              rw [if_neg (by decide), if_pos ⟨rfl, rfl⟩]
              exact a3.1
            · show (if (131 : Nat) = 131 then _ else _) = _
              rw [if_pos rfl]
              exact a3.2 a y hy)
          (by
            have hFO2 := hFO'.cg (S' := fun y => ov τ2 (τ1 131) (τ1 84 72) 118 y = 0) (fun y => by
              rw [ov_g _ _ _ (by decide) (by omega), b8 y]
              by_cases hy : y = x
              · rw [if_pos hy]
                exact ⟨fun _ => rfl, fun _ => Or.inr hy⟩
              · rw [if_neg hy]
                exact ⟨fun z => z.elim (fun z => z) (fun z => absurd z hy), Or.inl⟩)
            refine FO_app hFO2 a2 c2 (fun y y1 y2 => ?_)
            have ym : y < m := by omega
            have yx : y ≠ x := by omega
            have ys := h.st y ym
            rw [ov_g _ _ _ (by decide) (by omega), b8 y, if_neg yx, ← ys.1]
            constructor
            · rintro ⟨z1, z2⟩
              obtain ⟨w1, w2⟩ := sx y ym z1
              rw [dep_cg hfr w2] at z2
              exact ⟨⟨by rw [← w2]; exact z1, z2⟩, by rw [← w2]; exact z1, fun z => w1 (List.mem_cons_of_mem _ z)⟩
            · rintro ⟨⟨z1, z2⟩, -, z4⟩
              have w2 : σ 39 y = s 39 y := by
                rw [hst y, if_neg (fun z => (List.mem_cons.mp z).elim yx z4)]
              exact ⟨by rw [w2]; exact z1, (dep_cg hfr w2).mpr z2⟩)
          (fun y hy => by
            rcases List.mem_append.mp hy with z | z
            · exact hR y (List.mem_cons_of_mem _ z)
            · have := (a2.mem y).mp z
              omega)
          (by rw [← eL, List.length_append, List.length_append, List.length_append]; simp; omega)
        refine ⟨σe, τe, ?_, ?_, q3, q4, q5, c11.tr q6, ?_⟩
        · have e1 : pw ((x : Int) + 1) = ((x + 1 : Nat) : Int) := pw_s (show x < 20 by omega) (by decide)
          have hqx : σ 44 A.length = (x : Int) := hq A.length x (by rw [List.getElem?_append_right (Nat.le_refl _)]; simp)
          show (if ((A ++ x :: Q').length : Int) ≤ (A.length : Int) then _ else _) = _
          rw [if_neg (by rw [List.length_append]; simp; omega), if_neg (by omega), if_pos (by omega), Int.toNat_natCast, hqx, e1, c1, eF]
          have e2 : ((A ++ [x]).length : Int) = ((A.length + 1 : Nat) : Int) := by rw [List.length_append]; simp
          rw [e2] at q1
          exact q1
        · have hneg : ¬ (((P ++ x :: R').length : Nat) : Int) ≤ (P.length : Int) := by rw [List.length_append]; simp; omega
          have hpos : (0 : Int) ≤ (P.length : Int) ∧ (P.length : Int) < 400 := by omega
          have e1 : ((P ++ [x]).length : Int) = ((P.length + 1 : Nat) : Int) := by rw [List.length_append]; simp
          have e3 : pw ((x : Int) + 1) = ((x + 1 : Nat) : Int) := pw_s (show x < 20 by omega) (by decide)
          have e4 : pw ((P.length : Int) + 1) = ((P.length + 1 : Nat) : Int) := pw_s (show P.length < 400 by omega) (by decide)
          rw [e1] at q2
          have eL2 : f_M_listsThoseBy_84 (x : Int) τ = some (0, τ1) := by
            unfold f_M_listsThoseBy_84
            rw [e3]
            exact a1
          show (if τ 84 72 ≤ (P.length : Int) then _ else _) = _
          rw [hL.1, if_neg hneg, if_pos hpos, Int.toNat_natCast, hlx, if_pos gx, Int.toNat_natCast, if_neg hS, eL2, Option.bind_some]
          simp only [if_pos gx, e4]
          have o3 := o2
          unfold mMk at o3
          unfold mm1 at o3
          by_cases z1 : τ1 88 x = 3
          · rw [if_pos z1] at o3 ⊢
            by_cases z2 : τ1 126 x = 0
            · rw [if_pos z2] at o3 ⊢
              rw [Option.some.inj o3]
              exact q2
            · rw [if_neg z2] at o3 ⊢
              cases z3 : f_M_undoesTo_84 (x : Int) (pU (pU (pU τ1 118 x 0) 123 x (pw (τ1 123 x + 1))) 84 65 (pw (τ1 84 65 + 1))) with
              | none =>
                rw [z3] at o3
                cases o3
              | some w =>
                rw [z3] at o3
                have o4 : w.2 = _ := Option.some.inj o3
                rw [Option.bind_some, o4]
                exact q2
          · rw [if_neg z1] at o3 ⊢
            rw [Option.some.inj o3]
            exact q2
        · exact (((b6.mono (fun k y hh => Or.inl hh)).tr ((lo _).mono (fun k y hh => Or.inr hh))).tr q7)
/-- a replay: the same in both -/
theorem rp_ls {m : Nat} {rec : Nat → O8} {D : Nat → Prop} {σ τ : pS} {f : Nat} (hG : PG m rec σ τ) (h : RM m D σ τ) (hT : T2 m σ) (hV : GV m D σ) (hf : f < m) (hs : σ 39 f ≠ 0) : ∃ σ' τ', f_Mach_replay_3 (f : Int) σ = some (0, σ') ∧ f_M_replaysAll_84 (f : Int) τ = some (0, τ') ∧ PG m rec σ' τ' ∧ RM m D σ' τ' ∧ T2 m σ' ∧ FR P_rq σ σ' ∧ FR Q_rq τ τ' := by
  have hm := hG.le
  have a0 : RLt (pU τ 84 72 0) [] := ⟨pU_s _ _ _ _, fun a x hx => by simp at hx⟩
  obtain ⟨τ1, b1, b2, b3⟩ := m_li a0 (by decide) f
  have f1 : FR Q_li τ τ1 := (FR.u (Or.inr ⟨rfl, rfl⟩)).tr b3
  have hG1 : PG m rec σ τ1 := hG.fr (FR.rf _ _) (f1.mono (fun k x hh => by unfold Q_li at hh; unfold QN; omega))
  have h1 : RM m D σ τ1 := h.sno (FR.rf _ _) (f1.mono (fun k x hh => by unfold Q_li at hh; unfold Q_sno; omega))
  obtain ⟨σ2, τ2, c1, c2, c3, c4, c5, c6, c7, c8⟩ := mw_ls hG1 h1 hT hf
  have fq : FR P_rq σ (pU σ2 44 0 (f : Int)) := (c5.mono (fun k x hh => Or.inl hh)).tr (FR.u (Or.inr rfl))
  have s39 : ∀ x, pU σ2 44 0 (f : Int) 39 x = if x = f then 0 else σ 39 x := fun x => (pU_c _ _ _ _ (by decide)).trans (c7 x)
  obtain ⟨σ', τ', q1, q2, q3, q4, q5, q6, q7⟩ := rp_lp (rec := rec) (D := D) 400 4096 4096 σ (pU σ2 44 0 (f : Int)) τ1 τ2 [] [f] [] [f] rfl (by decide) (by decide) hG1 h1 hT hV (by show (mMk f τ1).bind _ = _; rw [c2]; rfl) (hG1.fr (fq.mono P_rq_N) (c6.mono Q_mw_N)) (c3.sno (FR.u (by unfold P_sno; omega)) (FR.rf _ _)) (fun x hx z => by
      rw [pU_c _ _ _ _ (by decide)] at z ⊢
      exact c4 x hx z) fq (fun x => by
      rw [s39]
      by_cases hx : x = f
      · rw [if_pos hx, if_pos (by rw [hx]; exact List.mem_singleton_self f)]
      · rw [if_neg hx, if_neg (fun z => hx (List.mem_singleton.mp z))]) (fun a x hx => by
      have hx : [f][a]? = some x := hx
      cases a with
      | zero =>
        simp at hx
        rw [pU_s, hx]
      | succ a => simp at hx) (by simp) (fun x hx => by
      have hx : x = f := List.mem_singleton.mp hx
      rw [s39, if_pos hx, hx]
      exact ⟨hf, rfl⟩) b2 (.take (fun z => hs (by rw [(h1.st f hf).1]; exact z)) (.nil _)) (fun x hx => by
      rw [List.mem_singleton.mp hx]
      exact hf) (by simp)
  refine ⟨σ', τ', ?_, ?_, q3, q4, q5, fq.tr q6, (f1.mono (fun k x hh => Or.inr hh)).tr q7⟩
  · unfold f_Mach_replay_3
    rw [c1, Option.bind_some]
    exact q1
  · unfold f_M_replaysAll_84
    rw [b1, Option.bind_some]
    exact q2
theorem pw_pw (a b : Int) : pw (pw a + b) = pw (a + b) := by
  unfold pw
  simp
/-- the load k took a byte older than what the store j has there -/
def atk (p : Int) (e : Nat) : Int := pAnd (pw (p + (e : Int))) 63
def tko (σ : pS) (k j a : Nat) : Prop := ∃ e : Nat, a ≤ e ∧ (e : Int) < σ 7 k ∧ σ 38 (4 * k + e) < (j : Int) ∧ pAnd (pw (atk (σ 37 k) e - σ 37 j)) 63 < σ 7 j
theorem c_cov (p s a : Int) (σ : pS) : f_X_covers p s a σ = some (if s ≤ pAnd (pw (a - p)) 63 then 0 else 1, σ) := by
  unfold f_X_covers
  split <;> rfl
theorem c_tko {σ : pS} {k j : Nat} (hk : k < 20) (hj : j < 20) {s : Nat} (hs : σ 7 k = (s : Int)) (hs4 : s ≤ 4) : ∀ (d a fu : Nat), a + d = s → d < fu → ∃ b : Int, f_Mach_tookTooOld_3_p2 fu (k : Int) (j : Int) (a : Int) σ = some (b, σ) ∧ ((b = 1 ∧ tko σ k j a) ∨ (b = 0 ∧ ¬ tko σ k j a))
  | 0, a, fu, ha, hf => by
    obtain ⟨n, rfl⟩ : ∃ n, fu = n + 1 := ⟨fu - 1, by omega⟩
    refine ⟨0, ?_, Or.inr ⟨rfl, ?_⟩⟩
    · show (if (0 : Int) ≤ (k : Int) ∧ (k : Int) < 20 then _ else _) = _
      rw [if_pos (by omega), Int.toNat_natCast, hs, if_pos (by omega)]
    · rintro ⟨e, e1, e2, -⟩
      rw [hs] at e2
      omega
  | d + 1, a, fu, ha, hf => by
    obtain ⟨n, rfl⟩ : ∃ n, fu = n + 1 := ⟨fu - 1, by omega⟩
    have ha4 : a < 4 := by omega
    have g : (0 : Int) ≤ (j : Int) ∧ (j : Int) < 20 := by omega
    obtain ⟨b, q1, q2⟩ := c_tko hk hj hs hs4 d (a + 1) n (by omega) (by omega)
    have eX : f_Mach_tookTooOld_3_p2 (n + 1) (k : Int) (j : Int) (a : Int) σ = (if (j : Int) ≤ σ 38 (4 * k + a) then f_Mach_tookTooOld_3_p2 n (k : Int) (j : Int) ((a + 1 : Nat) : Int) σ else (if σ 7 j ≤ pAnd (pw (atk (σ 37 k) a - σ 37 j)) 63 then f_Mach_tookTooOld_3_p2 n (k : Int) (j : Int) ((a + 1 : Nat) : Int) σ else some (1, σ))) := by
      show (if (0 : Int) ≤ (k : Int) ∧ (k : Int) < 20 then _ else _) = _
      rw [if_pos (by omega), Int.toNat_natCast, hs, if_neg (by omega), if_pos (by omega), (ix4 hk ha4).1, if_pos (ix4 hk ha4).2.2, Int.toNat_natCast, pw_s ha4 (by decide), if_pos g, if_pos g, Int.toNat_natCast, c_cov, Option.bind_some]
      show (if _ then _ else (if (if σ 7 j ≤ pAnd (pw (atk (σ 37 k) a - σ 37 j)) 63 then (0 : Int) else 1) = 0 then _ else _)) = _
      by_cases h : σ 7 j ≤ pAnd (pw (atk (σ 37 k) a - σ 37 j)) 63
      · simp only [if_pos h]
        rfl
      · simp only [if_neg h]
        rfl
    rw [eX]
    have nx : ¬ (σ 38 (4 * k + a) < (j : Int) ∧ pAnd (pw (atk (σ 37 k) a - σ 37 j)) 63 < σ 7 j) → ((b = 1 ∧ tko σ k j a) ∨ (b = 0 ∧ ¬ tko σ k j a)) := fun hno => by
      rcases q2 with ⟨b1, e, e1, e2, e3⟩ | ⟨b1, b2⟩
      · exact Or.inl ⟨b1, e, by omega, e2, e3⟩
      · refine Or.inr ⟨b1, ?_⟩
        rintro ⟨e, e1, e2, e3⟩
        by_cases hea : e = a
        · rw [hea] at e3
          exact hno e3
        · exact b2 ⟨e, by omega, e2, e3⟩
    by_cases h1 : (j : Int) ≤ σ 38 (4 * k + a)
    · rw [if_pos h1]
      exact ⟨b, q1, nx (fun z => absurd z.1 (Int.not_lt.mpr h1))⟩
    · rw [if_neg h1]
      by_cases h2 : σ 7 j ≤ pAnd (pw (atk (σ 37 k) a - σ 37 j)) 63
      · rw [if_pos h2]
        exact ⟨b, q1, nx (fun z => absurd z.2 (Int.not_lt.mpr h2))⟩
      · rw [if_neg h2]
        exact ⟨1, rfl, Or.inl ⟨rfl, a, Nat.le_refl _, by rw [hs]; omega, Int.not_le.mp h1, Int.not_le.mp h2⟩⟩
theorem m_cov {τ : pS} {j : Nat} (hj : j < 20) (a : Int) : f_M_covers_84 (j : Int) a τ = some (if τ 93 j ≤ pAnd (pw (a - τ 121 j)) 63 then 0 else 1, τ) := by
  unfold f_M_covers_84
  rw [if_pos (by omega), if_pos (by omega), Int.toNat_natCast]
  split <;> rfl
theorem m_tko {σ τ : pS} {k j : Nat} (hk : k < 20) (hj : j < 20) {s : Nat} (hs : σ 7 k = (s : Int)) (hs4 : s ≤ 4) (e93 : τ 93 k = σ 7 k) (e93j : τ 93 j = σ 7 j) (e121 : τ 121 k = σ 37 k) (e121j : τ 121 j = σ 37 j) (e124 : ∀ e : Nat, (e : Int) < σ 7 k → σ 38 (4 * k + e) = τ 124 (4 * k + e)) : ∀ (d a fu : Nat), a + d = s → d < fu → ∃ b : Int, f_M_tookOld_84_p2 fu (k : Int) (j : Int) (a : Int) τ = some (b, τ) ∧ ((b = 1 ∧ tko σ k j a) ∨ (b = 0 ∧ ¬ tko σ k j a))
  | 0, a, fu, ha, hf => by
    obtain ⟨n, rfl⟩ : ∃ n, fu = n + 1 := ⟨fu - 1, by omega⟩
    refine ⟨0, ?_, Or.inr ⟨rfl, ?_⟩⟩
    · show (if (0 : Int) ≤ (k : Int) ∧ (k : Int) < 20 then _ else _) = _
      rw [if_pos (by omega), Int.toNat_natCast, e93, hs, if_pos (by omega)]
    · rintro ⟨e, e1, e2, -⟩
      rw [hs] at e2
      omega
  | d + 1, a, fu, ha, hf => by
    obtain ⟨n, rfl⟩ : ∃ n, fu = n + 1 := ⟨fu - 1, by omega⟩
    have ha4 : a < 4 := by omega
    obtain ⟨b, q1, q2⟩ := m_tko hk hj hs hs4 e93 e93j e121 e121j e124 d (a + 1) n (by omega) (by omega)
    have e4 := e124 a (by rw [hs]; omega)
    have eX : f_M_tookOld_84_p2 (n + 1) (k : Int) (j : Int) (a : Int) τ = (if σ 7 j ≤ pAnd (pw (atk (σ 37 k) a - σ 37 j)) 63 then f_M_tookOld_84_p2 n (k : Int) (j : Int) ((a + 1 : Nat) : Int) τ else (if (j : Int) ≤ σ 38 (4 * k + a) then f_M_tookOld_84_p2 n (k : Int) (j : Int) ((a + 1 : Nat) : Int) τ else some (1, τ))) := by
      show (if (0 : Int) ≤ (k : Int) ∧ (k : Int) < 20 then _ else _) = _
      rw [if_pos (by omega), Int.toNat_natCast, e93, hs, if_neg (by omega), if_pos (by omega), e121, m_cov hj, Option.bind_some, (ix4 hk ha4).2.1, if_pos (ix4 hk ha4).2.2, Int.toNat_natCast, pw_s ha4 (by decide), e121j, e93j]
      show (if (if σ 7 j ≤ pAnd (pw (atk (σ 37 k) a - σ 37 j)) 63 then (0 : Int) else 1) = 0 then _ else (if (j : Int) ≤ τ 124 (4 * k + a) then _ else _)) = _
      rw [← e4]
      by_cases h : σ 7 j ≤ pAnd (pw (atk (σ 37 k) a - σ 37 j)) 63
      · simp only [if_pos h]
        rfl
      · simp only [if_neg h]
        rfl
    rw [eX]
    have nx : ¬ (σ 38 (4 * k + a) < (j : Int) ∧ pAnd (pw (atk (σ 37 k) a - σ 37 j)) 63 < σ 7 j) → ((b = 1 ∧ tko σ k j a) ∨ (b = 0 ∧ ¬ tko σ k j a)) := fun hno => by
      rcases q2 with ⟨b1, e, e1, e2, e3⟩ | ⟨b1, b2⟩
      · exact Or.inl ⟨b1, e, by omega, e2, e3⟩
      · refine Or.inr ⟨b1, ?_⟩
        rintro ⟨e, e1, e2, e3⟩
        by_cases hea : e = a
        · rw [hea] at e3
          exact hno e3
        · exact b2 ⟨e, by omega, e2, e3⟩
    by_cases h2 : σ 7 j ≤ pAnd (pw (atk (σ 37 k) a - σ 37 j)) 63
    · rw [if_pos h2]
      exact ⟨b, q1, nx (fun z => absurd z.2 (Int.not_lt.mpr h2))⟩
    · rw [if_neg h2]
      by_cases h1 : (j : Int) ≤ σ 38 (4 * k + a)
      · rw [if_pos h1]
        exact ⟨b, q1, nx (fun z => absurd z.1 (Int.not_lt.mpr h1))⟩
      · rw [if_neg h1]
        exact ⟨1, rfl, Or.inl ⟨rfl, a, Nat.le_refl _, by rw [hs]; omega, Int.not_le.mp h1, Int.not_le.mp h2⟩⟩
/-- two sets melt -/
def mset (A B : Int) : Int := if A = -1 then B else if B = -1 then A else pMin A B
def cmt (a b : Nat) (σ : pS) : pS := if σ 31 a = -1 ∧ σ 31 b = -1 then pU (pU (pU σ 28 3 (pRem (pw (σ 28 3 + 1)) 16)) 31 a (σ 28 3)) 31 b (σ 28 3) else pU (pU σ 31 a (mset (σ 31 a) (σ 31 b))) 31 b (mset (σ 31 a) (σ 31 b))
def mmt (a b : Nat) (τ : pS) : pS := if τ 87 a = -1 ∧ τ 87 b = -1 then pU (pU (pU τ 84 3 (pRem (pw (τ 84 3 + 1)) 16)) 87 a (τ 84 3)) 87 b (τ 84 3) else pU (pU τ 87 a (mset (τ 87 a) (τ 87 b))) 87 b (mset (τ 87 a) (τ 87 b))
theorem c_melt {a b : Nat} (ha : a < 20) (hb : b < 20) {σ : pS} (h1 : -1 ≤ σ 31 a) (h2 : -1 ≤ σ 31 b) : f_State_melt_28 (a : Int) (b : Int) σ = some (0, cmt a b σ) := by
  have ga : (0 : Int) ≤ (a : Int) ∧ (a : Int) < 20 := by omega
  have gb : (0 : Int) ≤ (b : Int) ∧ (b : Int) < 20 := by omega
  have e57 : ¬ (σ 31 a = -1 ∧ σ 31 b = -1) → f_State_melt_28_p57 (a : Int) (b : Int) (pMin (σ 31 a) (σ 31 b)) σ = some (0, pU (pU σ 31 a (mset (σ 31 a) (σ 31 b))) 31 b (mset (σ 31 a) (σ 31 b))) := fun hn => by
    unfold f_State_melt_28_p57
    simp only [if_pos ga, if_pos gb, Int.toNat_natCast]
    by_cases hz : pMin (σ 31 a) (σ 31 b) = -1
    · rw [if_pos hz]
      have : pMax (σ 31 a) (σ 31 b) = mset (σ 31 a) (σ 31 b) := by
        unfold pMin at hz
        unfold pMax mset pMin
        (repeat' split at hz) <;> (repeat' split) <;> omega
      rw [this]
    · rw [if_neg hz]
      have : pMin (σ 31 a) (σ 31 b) = mset (σ 31 a) (σ 31 b) := by
        unfold pMin at hz
        unfold mset pMin
        (repeat' split at hz) <;> (repeat' split) <;> omega
      rw [this]
  unfold f_State_melt_28 cmt
  simp only [if_pos ga, if_pos gb, Int.toNat_natCast]
  by_cases z1 : σ 31 a = -1
  · rw [if_pos z1]
    by_cases z2 : σ 31 b = -1
    · rw [if_pos z2, if_pos ⟨z1, z2⟩]
    · rw [if_neg z2, if_neg (fun z => z2 z.2), e57 (fun z => z2 z.2)]
  · rw [if_neg z1, if_neg (fun z => z1 z.1), e57 (fun z => z1 z.1)]
theorem m_melt {a b : Nat} (ha : a < 20) (hb : b < 20) {τ : pS} (h1 : -1 ≤ τ 87 a) (h2 : -1 ≤ τ 87 b) : f_M_melts_84 (a : Int) (b : Int) τ = some (0, mmt a b τ) := by
  have ga : (0 : Int) ≤ (a : Int) ∧ (a : Int) < 20 := by omega
  have gb : (0 : Int) ≤ (b : Int) ∧ (b : Int) < 20 := by omega
  have emin : f_M_min (τ 87 a) (τ 87 b) τ = some (pMin (τ 87 a) (τ 87 b), τ) := by
    unfold f_M_min pMin
    by_cases z : τ 87 b ≤ τ 87 a
    · rw [if_pos z]
      by_cases z2 : τ 87 b < τ 87 a
      · rw [if_pos z2]
      · rw [if_neg z2, show τ 87 b = τ 87 a by omega]
    · rw [if_neg z, if_neg (by omega)]
  unfold f_M_melts_84 mmt f_M_melts_84_p41
  simp only [if_pos ga, if_pos gb, Int.toNat_natCast, emin, Option.bind_some]
  unfold mset
  by_cases z1 : τ 87 a = -1
  · simp only [if_pos z1]
    by_cases z2 : τ 87 b = -1
    · simp only [if_pos z2, if_pos (show τ 87 a = -1 ∧ τ 87 b = -1 from ⟨z1, z2⟩)]
    · simp only [if_neg z2, if_neg (show ¬ (τ 87 a = -1 ∧ τ 87 b = -1) from fun z => z2 z.2)]
  · simp only [if_neg z1, if_neg (show ¬ (τ 87 a = -1 ∧ τ 87 b = -1) from fun z => z1 z.1)]
    by_cases z2 : τ 87 b = -1
    · simp only [if_pos z2, if_neg z1]
    · simp only [if_neg z2]
      have : ¬ pMin (τ 87 a) (τ 87 b) = -1 := by
        unfold pMin
        split <;> omega
      rw [if_neg this]
def P_ml (k x : Nat) : Prop := k = 31 ∨ (k = 28 ∧ x = 3)
def Q_ml (k x : Nat) : Prop := k = 87 ∨ (k = 84 ∧ x = 3)
theorem cmt_fr (a b : Nat) (σ : pS) : FR P_ml σ (cmt a b σ) := by
  unfold cmt
  split
  · exact ((FR.u (Or.inr ⟨rfl, rfl⟩)).tr (FR.u (Or.inl rfl))).tr (FR.u (Or.inl rfl))
  · exact (FR.u (Or.inl rfl)).tr (FR.u (Or.inl rfl))
theorem mmt_fr (a b : Nat) (τ : pS) : FR Q_ml τ (mmt a b τ) := by
  unfold mmt
  split
  · exact ((FR.u (Or.inr ⟨rfl, rfl⟩)).tr (FR.u (Or.inl rfl))).tr (FR.u (Or.inl rfl))
  · exact (FR.u (Or.inl rfl)).tr (FR.u (Or.inl rfl))
theorem melt_ls {m : Nat} {D : Nat → Prop} {σ τ : pS} {a b : Nat} (h : RM m D σ τ) (ha : a < m) (hb : b < m) : RM m D (cmt a b σ) (mmt a b τ) := by
  have sa := h.se a ha
  have sb := h.se b hb
  have sn := h.ns
  have hr : 0 ≤ pRem (pw (σ 28 3 + 1)) 16 ∧ pRem (pw (σ 28 3 + 1)) 16 ≤ 15 := by
    rw [pw_id (by omega) (by omega), pRem_eq (by omega) (by omega) (by decide) (by decide), Int.tmod_eq_emod_of_nonneg (by omega)]
    omega
  refine h.sse (cmt_fr a b σ) (mmt_fr a b τ) (fun j hj => ?_) ?_ (fun j hj h20 => ?_)
  · have sj := h.se j hj
    unfold cmt mmt
    rw [← sa.1, ← sb.1, ← sn.1]
    by_cases z : σ 31 a = -1 ∧ σ 31 b = -1
    · rw [if_pos z, if_pos z]
      by_cases h1 : j = b
      · rw [h1, pU_s, pU_s]
        exact ⟨rfl, by omega, by omega⟩
      · rw [pU_i _ _ _ _ h1, pU_i _ _ _ _ h1]
        by_cases h2 : j = a
        · rw [h2, pU_s, pU_s]
          exact ⟨rfl, by omega, by omega⟩
        · rw [pU_i _ _ _ _ h2, pU_i _ _ _ _ h2, pU_c _ _ _ _ (by decide), pU_c _ _ _ _ (by decide)]
          exact sj
    · rw [if_neg z, if_neg z]
      have hb2 : -1 ≤ mset (σ 31 a) (σ 31 b) ∧ mset (σ 31 a) (σ 31 b) ≤ 15 := by
        unfold mset pMin
        (repeat' split) <;> omega
      by_cases h1 : j = b
      · rw [h1, pU_s, pU_s]
        exact ⟨rfl, hb2⟩
      · rw [pU_i _ _ _ _ h1, pU_i _ _ _ _ h1]
        by_cases h2 : j = a
        · rw [h2, pU_s, pU_s]
          exact ⟨rfl, hb2⟩
        · rw [pU_i _ _ _ _ h2, pU_i _ _ _ _ h2]
          exact sj
  · unfold cmt mmt
    rw [← sa.1, ← sb.1, ← sn.1]
    by_cases z : σ 31 a = -1 ∧ σ 31 b = -1
    · rw [if_pos z, if_pos z, pU_c _ _ _ _ (by decide), pU_c _ _ _ _ (by decide), pU_s, pU_c _ _ _ _ (by decide), pU_c _ _ _ _ (by decide), pU_s]
      exact ⟨rfl, hr⟩
    · rw [if_neg z, if_neg z, pU_c _ _ _ _ (by decide), pU_c _ _ _ _ (by decide), pU_c _ _ _ _ (by decide), pU_c _ _ _ _ (by decide)]
      exact sn
  · unfold cmt
    by_cases z : σ 31 a = -1 ∧ σ 31 b = -1
    · rw [if_pos z, pU_i _ _ _ _ (by omega), pU_i _ _ _ _ (by omega), pU_c _ _ _ _ (by decide)]
      exact h.sh j hj h20
    · rw [if_neg z, pU_i _ _ _ _ (by omega), pU_i _ _ _ _ (by omega)]
      exact h.sh j hj h20
theorem RM.es {m : Nat} {D : Nat → Prop} {s σ τ : pS} (h : RM m D s τ) (e : FR P_sno s σ) : RM m D σ τ := h.sno e (FR.rf _ _)
def ES (s σ : pS) : Prop := ∀ k x, k ≠ 43 → σ k x = s k x
theorem cmt_ES {s σ : pS} (h : ES s σ) (a b : Nat) : ES (cmt a b s) (cmt a b σ) := by
  intro k x hk
  unfold cmt
  rw [h 31 a (by decide), h 31 b (by decide), h 28 3 (by decide)]
  by_cases z : s 31 a = -1 ∧ s 31 b = -1
  · rw [if_pos z, if_pos z]
    unfold pU
    rw [h k x hk]
  · rw [if_neg z, if_neg z]
    unfold pU
    rw [h k x hk]
def cmts (j : Nat) : List Nat → pS → pS
  | [], σ => σ
  | w :: ws, σ => cmts j ws (cmt w j σ)
def mmts (j : Nat) : List Nat → pS → pS
  | [], τ => τ
  | w :: ws, τ => mmts j ws (mmt w j τ)
theorem cmts_fr (j : Nat) : ∀ (ws : List Nat) (σ : pS), FR P_ml σ (cmts j ws σ)
  | [], σ => FR.rf _ _
  | w :: ws, σ => (cmt_fr w j σ).tr (cmts_fr j ws _)
theorem mmts_fr (j : Nat) : ∀ (ws : List Nat) (τ : pS), FR Q_ml τ (mmts j ws τ)
  | [], τ => FR.rf _ _
  | w :: ws, τ => (mmt_fr w j τ).tr (mmts_fr j ws _)
theorem melts_ls {m : Nat} {D : Nat → Prop} {j : Nat} (hj : j < m) : ∀ (ws : List Nat) {σ τ : pS}, RM m D σ τ → (∀ w ∈ ws, w < m) → RM m D (cmts j ws σ) (mmts j ws τ)
  | [], σ, τ, h, _ => h
  | w :: ws, σ, τ, h, hw => melts_ls hj ws (melt_ls h (hw w List.mem_cons_self) hj) (fun x hx => hw x (List.mem_cons_of_mem _ hx))
/-- a load that took too old a byte -/
def wl (σ : pS) (j k : Nat) : Prop := σ 5 k = 2 ∧ σ 39 k = 2 ∧ tko σ k j 0
theorem wl_cg {σ σ' : pS} {j k : Nat} (a : ∀ q x, (q = 5 ∨ q = 7 ∨ q = 37 ∨ q = 38 ∨ q = 39) → σ' q x = σ q x) : wl σ' j k ↔ wl σ j k := by
  unfold wl tko
  rw [a 5 _ (by omega), a 39 _ (by omega), a 7 _ (by omega), a 7 _ (by omega), a 37 _ (by omega), a 37 _ (by omega)]
  constructor
  · rintro ⟨h1, h2, e, e1, e2, e3, e4⟩
    rw [a 38 _ (by omega)] at e3
    exact ⟨h1, h2, e, e1, e2, e3, e4⟩
  · rintro ⟨h1, h2, e, e1, e2, e3, e4⟩
    rw [← a 38 _ (by omega)] at e3
    exact ⟨h1, h2, e, e1, e2, e3, e4⟩
def QW (c : Nat) (σ : pS) (F : List Nat) : Prop := ∀ (a x : Nat), F[a]? = some x → σ c a = (x : Int)
theorem QW.app {c : Nat} {σ : pS} {F : List Nat} (h : QW c σ F) (k : Nat) : QW c (pU σ c F.length (k : Int)) (F ++ [k]) := by
  intro a x hx
  by_cases ha : a = F.length
  · rw [ha, List.getElem?_append_right (Nat.le_refl _)] at hx
    simp at hx
    rw [ha, pU_s, hx]
  · have h1 : a < F.length := by
      have := (List.getElem?_eq_some_iff.mp hx).1
      rw [List.length_append] at this
      simp at this
      omega
    rw [List.getElem?_append_left h1] at hx
    rw [pU_i _ _ _ _ ha]
    exact h a x hx
theorem c_lb6 {m : Nat} {rec : Nat → O8} {D : Nat → Prop} {j : Nat} (hj : j < m) : ∀ (d k fu : Nat) (s σ τv : pS) (F : List Nat), k + d = m → d < fu → PG m rec s τv → RM m D s τv → ES s σ → QW 43 σ F → F.length + j + 1 ≤ k →
    ∃ ws σ1, f_Mach_lookBack_3_p6 fu (j : Int) (F.length : Int) (k : Int) σ = f_Mach_lookBack_3_p76 4096 ((F ++ ws).length : Int) 0 σ1 ∧ Fl (wl s j) k d ws ∧ ES (cmts j ws s) σ1 ∧ QW 43 σ1 (F ++ ws)
  | 0, k, fu, s, σ, τv, F, hk, hf, hG, h, hE, hQ, hl => by
    obtain ⟨n, rfl⟩ : ∃ n, fu = n + 1 := ⟨fu - 1, by omega⟩
    refine ⟨[], σ, ?_, .nil k, hE, by rw [List.append_nil]; exact hQ⟩
    show (if σ 4 11 ≤ (k : Int) then _ else _) = _
    rw [hE 4 11 (by decide), hG.cm, if_pos (by omega), List.append_nil]
  | d + 1, k, fu, s, σ, τv, F, hk, hf, hG, h, hE, hQ, hl => by
    obtain ⟨n, rfl⟩ : ∃ n, fu = n + 1 := ⟨fu - 1, by omega⟩
    have hm := hG.le
    have hkm : k < m := by omega
    have g : (0 : Int) ≤ (k : Int) ∧ (k : Int) < 20 := by omega
    have hk20 : k < 20 := by omega
    have eX : f_Mach_lookBack_3_p6 (n + 1) (j : Int) (F.length : Int) (k : Int) σ = (if s 5 k = 2 then (if s 39 k = 2 then ((f_Mach_tookTooOld_3 (k : Int) (j : Int) σ).bind fun q12 => (if q12.1 = 0 then (f_Mach_lookBack_3_p6 n (j : Int) (F.length : Int) ((k + 1 : Nat) : Int) q12.2) else (if 0 ≤ (F.length : Int) ∧ (F.length : Int) < 20 then ((f_State_melt_28 (k : Int) (j : Int) (pU q12.2 43 F.length (k : Int))).bind fun q15 => (f_Mach_lookBack_3_p6 n (j : Int) (pw ((F.length : Int) + 1)) ((k + 1 : Nat) : Int) q15.2)) else none))) else (f_Mach_lookBack_3_p6 n (j : Int) (F.length : Int) ((k + 1 : Nat) : Int) σ)) else (f_Mach_lookBack_3_p6 n (j : Int) (F.length : Int) ((k + 1 : Nat) : Int) σ)) := by
      show (if σ 4 11 ≤ (k : Int) then _ else _) = _
      rw [hE 4 11 (by decide), hG.cm, if_neg (by omega)]
      simp only [if_pos g, Int.toNat_natCast, pw_s hk20 (show 20 ≤ 100000 by decide), hE 5 k (by decide), hE 39 k (by decide)]
    have no : ¬ wl s j k → f_Mach_lookBack_3_p6 (n + 1) (j : Int) (F.length : Int) (k : Int) σ = f_Mach_lookBack_3_p6 n (j : Int) (F.length : Int) ((k + 1 : Nat) : Int) σ → ∃ ws σ1, f_Mach_lookBack_3_p6 (n + 1) (j : Int) (F.length : Int) (k : Int) σ = f_Mach_lookBack_3_p76 4096 ((F ++ ws).length : Int) 0 σ1 ∧ Fl (wl s j) k (d + 1) ws ∧ ES (cmts j ws s) σ1 ∧ QW 43 σ1 (F ++ ws) := fun hw he => by
      obtain ⟨ws, σ1, q1, q2, q3⟩ := c_lb6 hj d (k + 1) n s σ τv F (by omega) (by omega) hG h hE hQ (by omega)
      exact ⟨ws, σ1, he.trans q1, .no hw q2, q3⟩
    by_cases h5 : s 5 k = 2
    · by_cases h39 : s 39 k = 2
      · obtain ⟨y1, y2⟩ := hG.sz hkm (by omega)
        obtain ⟨sz, hs, hs4⟩ : ∃ s9 : Nat, σ 7 k = (s9 : Int) ∧ s9 ≤ 4 := ⟨(s 7 k).toNat, by rw [hE 7 k (by decide)]; omega, by omega⟩
        obtain ⟨b, b1, b2⟩ := c_tko (σ := σ) (show k < 20 by omega) (show j < 20 by omega) hs hs4 sz 0 4096 (by omega) (by omega)
        have ew : wl σ j k ↔ wl s j k := wl_cg (fun q x hq => hE q x (by omega))
        rw [show f_Mach_tookTooOld_3 (k : Int) (j : Int) σ = some (b, σ) from b1, if_pos h5, if_pos h39, Option.bind_some] at eX
        dsimp only at eX
        rcases b2 with ⟨z1, z2⟩ | ⟨z1, z2⟩
        · have hw : wl s j k := ew.mp ⟨by rw [hE 5 k (by decide)]; exact h5, by rw [hE 39 k (by decide)]; exact h39, z2⟩
          have sk := h.se k hkm
          have sj := h.se j hj
          have em : f_State_melt_28 (k : Int) (j : Int) (pU σ 43 F.length (k : Int)) = some (0, cmt k j (pU σ 43 F.length (k : Int))) := c_melt (by omega) (by omega) (by rw [pU_c _ _ _ _ (by decide), hE 31 k (by decide)]; exact sk.2.1) (by rw [pU_c _ _ _ _ (by decide), hE 31 j (by decide)]; exact sj.2.1)
          rw [if_neg (by omega), if_pos (by omega), em, Option.bind_some, pw_s (show F.length < 20 by omega) (by decide)] at eX
          have hE1 : ES s (pU σ 43 F.length (k : Int)) := fun q x hq => (pU_c _ _ _ _ hq).trans (hE q x hq)
          have f1 := cmt_fr k j s
          have f2 := mmt_fr k j τv
          obtain ⟨ws, σ1, q1, q2, q3, q4⟩ := c_lb6 hj d (k + 1) n (cmt k j s) (cmt k j (pU σ 43 F.length (k : Int))) (mmt k j τv) (F ++ [k]) (by omega) (by omega) (hG.fr (f1.mono (fun a b hh => by unfold P_ml at hh; unfold PN; omega)) (f2.mono (fun a b hh => by unfold Q_ml at hh; unfold QN; omega))) (melt_ls h hkm hj) (cmt_ES hE1 k j) (fun a x hx => by
            rw [(cmt_fr k j (pU σ 43 F.length (k : Int))).get (k := 43) (by unfold P_ml; omega)]
            exact hQ.app k a x hx) (by rw [List.length_append]; simp; omega)
          have el : ((F ++ [k]).length : Int) = ((F.length + 1 : Nat) : Int) := by rw [List.length_append]; simp
          rw [el] at q1
          rw [List.append_assoc] at q1 q4
          exact ⟨k :: ws, σ1, eX.trans q1, .yes hw (q2.cg (fun x _ _ => wl_cg (fun q y hq => f1.get (by unfold P_ml; omega)))), q3, q4⟩
        · rw [if_pos z1] at eX
          exact no (fun z => z2 (ew.mpr z).2.2) eX
      · rw [if_pos h5, if_neg h39] at eX
        exact no (fun z => h39 z.2.1) eX
    · rw [if_neg h5] at eX
      exact no (fun z => h5 z.1) eX
theorem m_lb6 {m : Nat} {rec : Nat → O8} {D : Nat → Prop} {j : Nat} (hj : j < m) (hD : D j) {s : pS} (hk3 : s 5 j = 3) : ∀ (d k fu : Nat) (τ : pS) (F : List Nat), k + d = m → d < fu → PG m rec s τ → RM m D s τ → QW 133 τ F → F.length + j + 1 ≤ k →
    ∃ ws τ1, f_M_looksBack_84_p6 fu (j : Int) (F.length : Int) (k : Int) τ = f_M_looksBack_84_p75 4096 (j : Int) ((F ++ ws).length : Int) 0 (pU τ1 84 64 (pw (τ 84 64 + ((F ++ ws).length : Int)))) ∧ Fl (wl s j) k d ws ∧ FR (fun k _ => k = 133) τ τ1 ∧ QW 133 τ1 (F ++ ws)
  | 0, k, fu, τ, F, hk, hf, hG, h, hQ, hl => by
    obtain ⟨n, rfl⟩ : ∃ n, fu = n + 1 := ⟨fu - 1, by omega⟩
    refine ⟨[], τ, ?_, .nil k, FR.rf _ _, by rw [List.append_nil]; exact hQ⟩
    show (if τ 84 2 ≤ (k : Int) then _ else _) = _
    rw [hG.mm, if_pos (by omega), List.append_nil]
  | d + 1, k, fu, τ, F, hk, hf, hG, h, hQ, hl => by
    obtain ⟨n, rfl⟩ : ∃ n, fu = n + 1 := ⟨fu - 1, by omega⟩
    have hm := hG.le
    have hkm : k < m := by omega
    have g : (0 : Int) ≤ (k : Int) ∧ (k : Int) < 20 := by omega
    have kk := hG.kd hkm
    have sk := h.st k hkm
    have hk20 : k < 20 := by omega
    have eX : f_M_looksBack_84_p6 (n + 1) (j : Int) (F.length : Int) (k : Int) τ = (if s 5 k = 2 then (if s 39 k = 2 then ((f_M_tookOld_84 (k : Int) (j : Int) τ).bind fun q15 => (if q15.1 = 0 then (f_M_looksBack_84_p6 n (j : Int) (F.length : Int) ((k + 1 : Nat) : Int) q15.2) else (if 0 ≤ (F.length : Int) ∧ (F.length : Int) < 20 then (f_M_looksBack_84_p6 n (j : Int) (pw ((F.length : Int) + 1)) ((k + 1 : Nat) : Int) (pU q15.2 133 F.length (k : Int))) else none))) else (f_M_looksBack_84_p6 n (j : Int) (F.length : Int) ((k + 1 : Nat) : Int) τ)) else (f_M_looksBack_84_p6 n (j : Int) (F.length : Int) ((k + 1 : Nat) : Int) τ)) := by
      show (if τ 84 2 ≤ (k : Int) then _ else _) = _
      rw [hG.mm, if_neg (by omega)]
      simp only [if_pos g, Int.toNat_natCast, pw_s hk20 (show 20 ≤ 100000 by decide), kk.1, ← sk.1]
    have no : ¬ wl s j k → f_M_looksBack_84_p6 (n + 1) (j : Int) (F.length : Int) (k : Int) τ = f_M_looksBack_84_p6 n (j : Int) (F.length : Int) ((k + 1 : Nat) : Int) τ → ∃ ws τ1, f_M_looksBack_84_p6 (n + 1) (j : Int) (F.length : Int) (k : Int) τ = f_M_looksBack_84_p75 4096 (j : Int) ((F ++ ws).length : Int) 0 (pU τ1 84 64 (pw (τ 84 64 + ((F ++ ws).length : Int)))) ∧ Fl (wl s j) k (d + 1) ws ∧ FR (fun k _ => k = 133) τ τ1 ∧ QW 133 τ1 (F ++ ws) := fun hw he => by
      obtain ⟨ws, τ1, q1, q2, q3⟩ := m_lb6 hj hD hk3 d (k + 1) n τ F (by omega) (by omega) hG h hQ (by omega)
      exact ⟨ws, τ1, he.trans q1, .no hw q2, q3⟩
    by_cases h5 : s 5 k = 2
    · by_cases h39 : s 39 k = 2
      · obtain ⟨y1, y2⟩ := hG.sz hkm (by omega)
        obtain ⟨y3, -⟩ := hG.sz hj (by omega)
        obtain ⟨sz, hs, hs4⟩ : ∃ s9 : Nat, s 7 k = (s9 : Int) ∧ s9 ≤ 4 := ⟨(s 7 k).toNat, by omega, by omega⟩
        have va := h.va k hkm (h.dn k hkm h39)
        have vj := h.va j hj hD
        obtain ⟨b, b1, b2⟩ := m_tko (σ := s) (τ := τ) (show k < 20 by omega) (show j < 20 by omega) hs hs4 y1 y3 (va.2.2.1 (by omega)).symm (vj.2.2.1 (by omega)).symm (va.2.2.2 h5) sz 0 4096 (by omega) (by omega)
        rw [show f_M_tookOld_84 (k : Int) (j : Int) τ = some (b, τ) from b1, if_pos h5, if_pos h39, Option.bind_some] at eX
        dsimp only at eX
        rcases b2 with ⟨z1, z2⟩ | ⟨z1, z2⟩
        · rw [if_neg (by omega), if_pos (by omega), pw_s (show F.length < 20 by omega) (by decide)] at eX
          have f1 : FR (fun k _ => k = 133) τ (pU τ 133 F.length (k : Int)) := FR.u rfl
          obtain ⟨ws, τ1, q1, q2, q3, q4⟩ := m_lb6 hj hD hk3 d (k + 1) n (pU τ 133 F.length (k : Int)) (F ++ [k]) (by omega) (by omega) (hG.fr (FR.rf _ _) (f1.mono (fun a b hh => by have hh : a = 133 := hh; unfold QN; omega))) (h.sno (FR.rf _ _) (f1.mono (fun a b hh => by have hh : a = 133 := hh; unfold Q_sno; omega))) (hQ.app k) (by rw [List.length_append]; simp; omega)
          have el : ((F ++ [k]).length : Int) = ((F.length + 1 : Nat) : Int) := by rw [List.length_append]; simp
          rw [el] at q1
          rw [List.append_assoc] at q1 q4
          rw [pU_c _ _ _ _ (by decide)] at q1
          exact ⟨k :: ws, τ1, eX.trans q1, .yes ⟨h5, h39, z2⟩ q2, f1.tr q3, q4⟩
        · rw [if_pos z1] at eX
          exact no (fun z => z2 z.2.2) eX
      · rw [if_pos h5, if_neg h39] at eX
        exact no (fun z => h39 z.2.1) eX
    · rw [if_neg h5] at eX
      exact no (fun z => h5 z.1) eX
theorem m_75 {m : Nat} {D : Nat → Prop} {j : Nat} (hj : j < m) (hm : m ≤ 20) {L : List Nat} (hL : ∀ w ∈ L, w < m) (hl : L.length ≤ 20) : ∀ (W : List Nat) (a fu : Nat) (s τ : pS), a + W.length = L.length → (∀ b, W[b]? = L[a + b]?) → W.length < fu → RM m D s τ → QW 133 τ L → f_M_looksBack_84_p75 fu (j : Int) (L.length : Int) (a : Int) τ = f_M_looksBack_84_p99 4096 (L.length : Int) 0 (mmts j W τ)
  | [], a, fu, s, τ, ha, hW, hf, h, hQ => by
    obtain ⟨n, rfl⟩ : ∃ n, fu = n + 1 := ⟨fu - 1, by omega⟩
    show (if (L.length : Int) ≤ (a : Int) then _ else _) = _
    have : a + 0 = L.length := ha
    rw [if_pos (by omega)]
    rfl
  | w :: W, a, fu, s, τ, ha, hW, hf, h, hQ => by
    obtain ⟨n, rfl⟩ : ∃ n, fu = n + 1 := ⟨fu - 1, by omega⟩
    have ha' : a + (W.length + 1) = L.length := ha
    have hf' : W.length + 1 < n + 1 := hf
    have hw : L[a]? = some w := by
      have := hW 0
      rw [Nat.add_zero] at this
      exact this.symm
    have hwm := hL w (List.mem_of_getElem? hw)
    have sw := h.se w hwm
    have sj := h.se j hj
    have em : f_M_melts_84 (w : Int) (j : Int) τ = some (0, mmt w j τ) := m_melt (by omega) (by omega) (by omega) (by omega)
    have ih := m_75 hj hm hL hl W (a + 1) n (cmt w j s) (mmt w j τ) (by omega) (fun b => by
      have := hW (b + 1)
      rw [show a + (b + 1) = a + 1 + b by omega] at this
      exact this) (by omega) (melt_ls h hwm hj) (fun b x hx => by
      rw [(mmt_fr w j τ).get (k := 133) (by unfold Q_ml; omega)]
      exact hQ b x hx)
    show (if (L.length : Int) ≤ (a : Int) then _ else _) = _
    rw [if_neg (by omega), if_pos (by omega), Int.toNat_natCast, hQ a w hw, em, Option.bind_some, pw_s (show a < 20 by omega) (by decide)]
    exact ih
def P_lb (k x : Nat) : Prop := P_rq k x ∨ P_ml k x ∨ k = 43 ∨ (k = 33 ∧ x = 1)
def Q_lb (k x : Nat) : Prop := Q_rq k x ∨ Q_ml k x ∨ k = 133 ∨ (k = 84 ∧ x = 64)
theorem P_lb_N (k x : Nat) (h : P_lb k x) : PN k x := by unfold P_lb P_rq P_mw P_un P_ml at h; unfold PN; omega
theorem Q_lb_N (k x : Nat) (h : Q_lb k x) : QN k x := by unfold Q_lb Q_rq Q_mw Q_un Q_li Q_ml at h; unfold QN; omega
theorem pw_r (a : Int) : -2147483648 ≤ pw a ∧ pw a < 2147483648 := by
  unfold pw
  have h1 := Int.le_bmod (x := a) (m := 4294967296) (by decide)
  have h2 := Int.bmod_lt (x := a) (m := 4294967296) (by decide)
  omega
theorem lb_rp {m : Nat} {rec : Nat → O8} {D : Nat → Prop} {L : List Nat} (hL : ∀ w ∈ L, w < m) (hl : L.length ≤ 20) : ∀ (d a fu1 fu2 : Nat) (σ τ : pS), a + d = L.length → d < fu1 → d < fu2 → PG m rec σ τ → RM m D σ τ → T2 m σ → GV m D σ → QW 43 σ L → QW 133 τ L → -2147483648 ≤ σ 33 1 ∧ σ 33 1 < 2147483648 →
    ∃ σ' τ', f_Mach_lookBack_3_p76 fu1 (L.length : Int) (a : Int) σ = some (0, σ') ∧ f_M_looksBack_84_p99 fu2 (L.length : Int) (a : Int) τ = some (0, τ') ∧ PG m rec σ' τ' ∧ RM m D σ' τ' ∧ T2 m σ' ∧ GV m D σ' ∧ σ' 33 1 = pw (σ 33 1 + (d : Int)) ∧ FR P_lb σ σ' ∧ FR Q_rq τ τ'
  | 0, a, fu1, fu2, σ, τ, ha, h1, h2, hG, h, hT, hV, hQ, hR, hw => by
    obtain ⟨n1, rfl⟩ : ∃ n, fu1 = n + 1 := ⟨fu1 - 1, by omega⟩
    obtain ⟨n2, rfl⟩ : ∃ n, fu2 = n + 1 := ⟨fu2 - 1, by omega⟩
    refine ⟨σ, τ, ?_, ?_, hG, h, hT, hV, (pw_id (by omega) (by omega)).symm.trans (by rw [show σ 33 1 + ((0 : Nat) : Int) = σ 33 1 by omega]), FR.rf _ _, FR.rf _ _⟩
    · show (if (L.length : Int) ≤ (a : Int) then _ else _) = _
      rw [if_pos (by omega)]
    · show (if (L.length : Int) ≤ (a : Int) then _ else _) = _
      rw [if_pos (by omega)]
  | d + 1, a, fu1, fu2, σ, τ, ha, h1, h2, hG, h, hT, hV, hQ, hR, hw => by
    obtain ⟨n1, rfl⟩ : ∃ n, fu1 = n + 1 := ⟨fu1 - 1, by omega⟩
    obtain ⟨n2, rfl⟩ : ∃ n, fu2 = n + 1 := ⟨fu2 - 1, by omega⟩
    have hm := hG.le
    have haL : a < L.length := by omega
    obtain ⟨w, hw1⟩ : ∃ w, L[a]? = some w := ⟨L[a], List.getElem?_eq_getElem haL⟩
    have hwm := hL w (List.mem_of_getElem? hw1)
    have a20 : a < 20 := by omega
    have ga : (0 : Int) ≤ (a : Int) ∧ (a : Int) < 20 := by omega
    have gw : (0 : Int) ≤ (w : Int) ∧ (w : Int) < 20 := by omega
    have gn : ¬ (L.length : Int) ≤ (a : Int) := by omega
    have sw := h.st w hwm
    have f0 : FR P_lb σ (pU σ 33 1 (pw (σ 33 1 + 1))) := FR.u (Or.inr (Or.inr (Or.inr ⟨rfl, rfl⟩)))
    have hG0 : PG m rec (pU σ 33 1 (pw (σ 33 1 + 1))) τ := hG.fr (f0.mono P_lb_N) (FR.rf _ _)
    have h0 : RM m D (pU σ 33 1 (pw (σ 33 1 + 1))) τ := h.es (FR.u (by unfold P_sno; omega))
    have hT0 : T2 m (pU σ 33 1 (pw (σ 33 1 + 1))) := fun x hx z => by
      rw [pU_c _ _ _ _ (by decide)] at z ⊢
      exact hT x hx z
    have hV0 : GV m D (pU σ 33 1 (pw (σ 33 1 + 1))) := hV.fr (fun k x hk => pU_c _ _ _ _ (by omega))
    have hQ0 : QW 43 (pU σ 33 1 (pw (σ 33 1 + 1))) L := fun b x hx => (pU_c _ _ _ _ (by decide)).trans (hQ b x hx)
    have r0 : -2147483648 ≤ pU σ 33 1 (pw (σ 33 1 + 1)) 33 1 ∧ pU σ 33 1 (pw (σ 33 1 + 1)) 33 1 < 2147483648 := by
      rw [pU_s]
      exact pw_r _
    have cnt : ∀ σ9 : pS, σ9 33 1 = pU σ 33 1 (pw (σ 33 1 + 1)) 33 1 → pw (σ9 33 1 + (d : Int)) = pw (σ 33 1 + ((d + 1 : Nat) : Int)) := fun σ9 e9 => by
      rw [e9, pU_s, pw_pw, show σ 33 1 + 1 + (d : Int) = σ 33 1 + ((d + 1 : Nat) : Int) by omega]
    have eX : f_Mach_lookBack_3_p76 (n1 + 1) (L.length : Int) (a : Int) σ = (if σ 39 w = 0 then f_Mach_lookBack_3_p76 n1 (L.length : Int) ((a + 1 : Nat) : Int) (pU σ 33 1 (pw (σ 33 1 + 1))) else ((f_Mach_replay_3 (w : Int) (pU σ 33 1 (pw (σ 33 1 + 1)))).bind fun q7 => (f_Mach_lookBack_3_p76 n1 (L.length : Int) ((a + 1 : Nat) : Int) q7.2))) := by
      show (if (L.length : Int) ≤ (a : Int) then _ else _) = _
      rw [if_neg gn, if_pos ga, Int.toNat_natCast, hQ a w hw1, if_pos gw, if_pos ga, Int.toNat_natCast, pw_s a20 (by decide)]
    have eM : f_M_looksBack_84_p99 (n2 + 1) (L.length : Int) (a : Int) τ = (if σ 39 w = 0 then f_M_looksBack_84_p99 n2 (L.length : Int) ((a + 1 : Nat) : Int) τ else ((f_M_replaysAll_84 (w : Int) τ).bind fun q8 => (f_M_looksBack_84_p99 n2 (L.length : Int) ((a + 1 : Nat) : Int) q8.2))) := by
      show (if (L.length : Int) ≤ (a : Int) then _ else _) = _
      rw [if_neg gn, if_pos ga, Int.toNat_natCast, hR a w hw1, if_pos gw, if_pos ga, Int.toNat_natCast, pw_s a20 (by decide), sw.1]
    rw [eX, eM]
    by_cases hz : σ 39 w = 0
    · rw [if_pos hz, if_pos hz]
      obtain ⟨σ', τ', q1, q2, q3, q4, q5, q6, q7, q8, q9⟩ := lb_rp hL hl d (a + 1) n1 n2 _ τ (by omega) (by omega) (by omega) hG0 h0 hT0 hV0 hQ0 hR r0
      exact ⟨σ', τ', q1, q2, q3, q4, q5, q6, q7.trans (cnt _ rfl), f0.tr q8, q9⟩
    · rw [if_neg hz, if_neg hz]
      obtain ⟨σ1, τ1, c1, c2, c3, c4, c5, c6, c7⟩ := rp_ls hG0 h0 hT0 hV0 hwm (by rw [pU_c _ _ _ _ (by decide)]; exact hz)
      rw [c1, c2, Option.bind_some, Option.bind_some]
      have k33 : σ1 33 1 = pU σ 33 1 (pw (σ 33 1 + 1)) 33 1 := c6.get (by unfold P_rq P_mw P_un; omega)
      obtain ⟨σ', τ', q1, q2, q3, q4, q5, q6, q7, q8, q9⟩ := lb_rp hL hl d (a + 1) n1 n2 σ1 τ1 (by omega) (by omega) (by omega) c3 c4 c5 (hV0.fr (fun k x hk => c6.get (by unfold P_rq P_mw P_un; omega))) (fun b x hx => (c6.get (by unfold P_rq P_mw P_un; omega)).trans (hQ0 b x hx)) (fun b x hx => (c7.get (by unfold Q_rq Q_mw Q_un Q_li; omega)).trans (hR b x hx)) (by rw [k33]; exact r0)
      exact ⟨σ', τ', q1, q2, q3, q4, q5, q6, q7.trans (cnt _ k33), (f0.tr (c6.mono (fun k x hh => Or.inl hh))).tr q8, c7.tr q9⟩
/-- wrong loads are counted alike -/
def CW (σ τ : pS) : Prop := σ 33 1 = τ 84 64 ∧ -2147483648 ≤ σ 33 1 ∧ σ 33 1 < 2147483648
/-- a store looks back: the same in both -/
theorem lb_ls {m : Nat} {rec : Nat → O8} {D : Nat → Prop} {σ τ : pS} {j : Nat} (hG : PG m rec σ τ) (h : RM m D σ τ) (hT : T2 m σ) (hV : GV m D σ) (hC : CW σ τ) (hj : j < m) (hD : D j) (hk3 : σ 5 j = 3) : ∃ σ' τ', f_Mach_lookBack_3 (j : Int) σ = some (0, σ') ∧ f_M_looksBack_84 (j : Int) τ = some (0, τ') ∧ PG m rec σ' τ' ∧ RM m D σ' τ' ∧ T2 m σ' ∧ GV m D σ' ∧ CW σ' τ' ∧ FR P_lb σ σ' ∧ FR Q_lb τ τ' := by
  have hm := hG.le
  obtain ⟨ws, σ1, a1, a2, a3, a4⟩ := c_lb6 hj (m - (j + 1)) (j + 1) 4096 σ σ τ [] (by omega) (by omega) hG h (fun _ _ _ => rfl) (fun a x hx => by simp at hx) (by simp)
  obtain ⟨ws', τ1, b1, b2, b3, b4⟩ := m_lb6 hj hD hk3 (m - (j + 1)) (j + 1) 4096 τ [] (by omega) (by omega) hG h (fun a x hx => by simp at hx) (by simp)
  have ew : ws' = ws := by
    have aux : ∀ {p : Nat → Prop} {d k : Nat} {A B : List Nat}, Fl p k d A → Fl p k d B → A = B := by
      intro p d
      induction d with
      | zero => intro k A B x y; rw [x.iv0, y.iv0]
      | succ d ih =>
        intro k A B x y
        rcases x.iv with ⟨x1, A', rfl, x2⟩ | ⟨x1, x2⟩
        · rcases y.iv with ⟨y1, B', rfl, y2⟩ | ⟨y1, y2⟩
          · rw [ih x2 y2]
          · exact absurd x1 y1
        · rcases y.iv with ⟨y1, B', rfl, y2⟩ | ⟨y1, y2⟩
          · exact absurd y1 x1
          · exact ih x2 y2
    exact aux b2 a2
  subst ew
  rw [List.nil_append] at a1 a4 b1 b4
  have hw : ∀ w ∈ ws', w < m := fun w hw => by
    have := (a2.mem w).mp hw
    omega
  have hl : ws'.length ≤ 20 := by
    have := a2.len
    omega
  have f1 : FR Q_lb τ (pU τ1 84 64 (pw (τ 84 64 + (ws'.length : Int)))) := (b3.mono (fun k x hh => Or.inr (Or.inr (Or.inl hh)))).tr (FR.u (Or.inr (Or.inr (Or.inr ⟨rfl, rfl⟩))))
  have f1s : FR Q_sno τ (pU τ1 84 64 (pw (τ 84 64 + (ws'.length : Int)))) := (b3.mono (fun k x hh => by have hh : k = 133 := hh; unfold Q_sno; omega)).tr (FR.u (by unfold Q_sno; omega))
  have h1 := h.sno (FR.rf _ σ) f1s
  have e75 := m_75 hj hm hw hl ws' 0 4096 σ _ (by omega) (fun b => by rw [Nat.zero_add]) (by omega) h1 (fun b x hx => (pU_c _ _ _ _ (by decide)).trans (b4 b x hx))
  have h2 := melts_ls hj ws' h1 hw
  have hE : FR P_sno (cmts j ws' σ) σ1 := fun k x => by
    by_cases hk : k = 43
    · exact Or.inl (by unfold P_sno; omega)
    · exact Or.inr (a3 k x hk)
  have h3 := h2.es hE
  have g1 : FR P_lb σ σ1 := fun k x => by
    by_cases hk : k = 43
    · exact Or.inl (Or.inr (Or.inr (Or.inl hk)))
    · rcases cmts_fr j ws' σ k x with z | z
      · exact Or.inl (Or.inr (Or.inl z))
      · exact Or.inr ((a3 k x hk).trans z)
  have g2 : FR Q_lb τ (mmts j ws' (pU τ1 84 64 (pw (τ 84 64 + (ws'.length : Int))))) := f1.tr ((mmts_fr j ws' _).mono (fun k x hh => Or.inr (Or.inl hh)))
  have k33 : σ1 33 1 = σ 33 1 := (a3 33 1 (by decide)).trans ((cmts_fr j ws' σ).get (by unfold P_ml; omega))
  have hT1 : T2 m σ1 := fun x hx z => by
    rw [a3 41 x (by decide), (cmts_fr j ws' σ).get (by unfold P_ml; omega)] at z
    rw [a3 39 x (by decide), (cmts_fr j ws' σ).get (by unfold P_ml; omega)]
    exact hT x hx z
  obtain ⟨σ', τ', q1, q2, q3, q4, q5, q6, q7, q8, q9⟩ := lb_rp hw hl ws'.length 0 4096 4096 σ1 _ (by omega) (by omega) (by omega) (hG.fr (g1.mono P_lb_N) (g2.mono Q_lb_N)) h3 hT1 (hV.fr (fun k x hk => (a3 k x (by omega)).trans ((cmts_fr j ws' σ).get (by unfold P_ml; omega)))) a4 (fun b x hx => ((mmts_fr j ws' _).get (by unfold Q_ml; omega)).trans ((pU_c _ _ _ _ (by decide)).trans (b4 b x hx))) (by rw [k33]; exact hC.2)
  refine ⟨σ', τ', ?_, ?_, q3, q4, q5, q6, ⟨?_, ?_⟩, g1.tr q8, g2.tr (q9.mono (fun k x hh => Or.inl hh))⟩
  · unfold f_Mach_lookBack_3
    rw [pw_s (show j < 20 by omega) (by decide)]
    exact a1.trans q1
  · unfold f_M_looksBack_84
    rw [pw_s (show j < 20 by omega) (by decide)]
    exact b1.trans (e75.trans q2)
  · rw [q7, k33, q9.get (k := 84) (x := 64) (by unfold Q_rq Q_mw Q_un Q_li; omega), (mmts_fr j ws' _).get (k := 84) (x := 64) (by unfold Q_ml; omega), pU_s, hC.1]
  · rw [q7]
    exact pw_r _
theorem bt2 (x : BitVec 32) (s : Nat) (hs : s ≤ 24) : (x.sshiftRight s) &&& 255#32 = (x >>> s) &&& 255#32 := by
  apply BitVec.eq_of_getLsbD_eq
  intro i hi
  have h255 : (255#32).getLsbD i = decide (i < 8) := by
    revert i
    decide
  simp only [BitVec.getLsbD_and, h255]
  by_cases h : i < 8
  · simp only [h, decide_true, Bool.and_true]
    rw [BitVec.getLsbD_sshiftRight, BitVec.getLsbD_ushiftRight]
    have h1 : ¬ 32 ≤ i := by omega
    have h2 : s + i < 32 := by omega
    simp [h2, h1]
  · simp [h]
theorem bs_8 (s : Int) (n : Nat) (hn : n ≤ 24) (hs : ∀ x : Int32, (x >>> (Int32.ofInt s &&& 31)).toBitVec = x.toBitVec.sshiftRight n) (hu : ∀ x : Int32, ((x.toUInt32 >>> ((Int32.ofInt s).toUInt32 &&& Int32.toUInt32 31)).toInt32).toBitVec = x.toBitVec >>> n) (a : Int) : pAnd (pShr a s) 255 = pAnd (pUsh a s) 255 := by
  unfold pAnd pShr pUsh pO
  simp only [Int32.ofInt_toInt]
  congr 1
  apply Int32.toBitVec_inj.mp
  show (Int32.ofInt a >>> (Int32.ofInt s &&& 31)).toBitVec &&& 255#32 = (((Int32.ofInt a).toUInt32 >>> ((Int32.ofInt s).toUInt32 &&& Int32.toUInt32 31)).toInt32).toBitVec &&& 255#32
  rw [hs, hu]
  exact bt2 _ _ hn
theorem bs_k (a : Int) {k : Nat} (hk : k ≤ 3) : pAnd (pShr a (8 * (k : Int))) 255 = pAnd (pUsh a (8 * (k : Int))) 255 := by
  match k, hk with
  | 0, _ => exact bs_8 0 0 (by omega) (fun _ => rfl) (fun _ => rfl) a
  | 1, _ => exact bs_8 8 8 (by omega) (fun _ => rfl) (fun _ => rfl) a
  | 2, _ => exact bs_8 16 16 (by omega) (fun _ => rfl) (fun _ => rfl) a
  | 3, _ => exact bs_8 24 24 (by omega) (fun _ => rfl) (fun _ => rfl) a
/-- a byte of a value, by how far -/
theorem bs_p (a p : Int) (h : 0 ≤ p ∧ p < 4) : pAnd (pShr a (pw (8 * p))) 255 = pAnd (pUsh a (pw (8 * p))) 255 := by
  obtain ⟨k, rfl⟩ : ∃ k : Nat, p = (k : Int) := ⟨p.toNat, by omega⟩
  rw [pw_id (by omega) (by omega)]
  exact bs_k a (by omega)
/-- the youngest store below that covers a byte -/
def yc (σ : pS) (a : Int) : Nat → Int
  | 0 => -1
  | k + 1 => if σ 5 k = 3 ∧ σ 39 k = 2 ∧ pAnd (pw (a - σ 37 k)) 63 < σ 7 k then (k : Int) else yc σ a k
theorem yc_r (σ : pS) (a : Int) : ∀ k : Nat, yc σ a k = -1 ∨ ∃ j : Nat, yc σ a k = (j : Int) ∧ j < k ∧ σ 5 j = 3 ∧ σ 39 j = 2 ∧ pAnd (pw (a - σ 37 j)) 63 < σ 7 j
  | 0 => Or.inl rfl
  | k + 1 => by
    unfold yc
    by_cases h : σ 5 k = 3 ∧ σ 39 k = 2 ∧ pAnd (pw (a - σ 37 k)) 63 < σ 7 k
    · rw [if_pos h]
      exact Or.inr ⟨k, rfl, by omega, h⟩
    · rw [if_neg h]
      rcases yc_r σ a k with z | ⟨j, z1, z2, z3⟩
      · exact Or.inl z
      · exact Or.inr ⟨j, z1, by omega, z3⟩
theorem yc_cg {σ σ' : pS} {a : Int} : ∀ k : Nat, (∀ j, j < k → σ' 5 j = σ 5 j ∧ σ' 39 j = σ 39 j ∧ σ' 37 j = σ 37 j ∧ σ' 7 j = σ 7 j) → yc σ' a k = yc σ a k
  | 0, _ => rfl
  | k + 1, h => by
    unfold yc
    obtain ⟨h1, h2, h3, h4⟩ := h k (by omega)
    rw [h1, h2, h3, h4, yc_cg k (fun j hj => h j (by omega))]
theorem c_yc {σ : pS} {a : Int} : ∀ (k fu : Nat), k ≤ 20 → k < fu → f_Mach_youngestCovering_3_p4 fu a ((k : Int) - 1) σ = some (yc σ a k, σ)
  | 0, fu, hk, hf => by
    obtain ⟨n, rfl⟩ : ∃ n, fu = n + 1 := ⟨fu - 1, by omega⟩
    show (if ((0 : Nat) : Int) - 1 < 0 then _ else _) = _
    rw [if_pos (by omega)]
    rfl
  | k + 1, fu, hk, hf => by
    obtain ⟨n, rfl⟩ : ∃ n, fu = n + 1 := ⟨fu - 1, by omega⟩
    have e : ((k + 1 : Nat) : Int) - 1 = (k : Int) := by omega
    have g : (0 : Int) ≤ (k : Int) ∧ (k : Int) < 20 := by omega
    have ih := c_yc (σ := σ) (a := a) k n (by omega) (by omega)
    rw [e]
    show (if (k : Int) < 0 then _ else _) = _
    rw [if_neg (by omega)]
    simp only [if_pos g, Int.toNat_natCast, c_cov, Option.bind_some, pw_p (show k < 20 by omega) (show 20 ≤ 100000 by decide)]
    unfold yc
    by_cases h1 : σ 5 k = 3
    · rw [if_pos h1]
      by_cases h2 : σ 39 k = 2
      · rw [if_pos h2]
        by_cases h3 : σ 7 k ≤ pAnd (pw (a - σ 37 k)) 63
        · simp only [if_pos h3]
          rw [if_pos trivial, if_neg (fun z => absurd z.2.2 (Int.not_lt.mpr h3))]
          exact ih
        · simp only [if_neg h3]
          rw [if_neg (by decide), if_pos ⟨h1, h2, Int.not_le.mp h3⟩]
      · rw [if_neg h2, if_neg (fun z => h2 z.2.1)]
        exact ih
    · rw [if_neg h1, if_neg (fun z => h1 z.1)]
      exact ih
/-- what both know of the ops below i -/
def BL (i : Nat) (σ τ : pS) : Prop := ∀ k, k < i → τ 88 k = σ 5 k ∧ τ 118 k = σ 39 k ∧ (σ 5 k = 3 → τ 93 k = σ 7 k ∧ σ 7 k ≤ 4) ∧ (σ 5 k = 3 → σ 39 k = 2 → τ 121 k = σ 37 k ∧ τ 120 k = σ 36 k)
theorem m_l37 {σ τ : pS} {i : Nat} (hi : i ≤ 20) (hB : BL i σ τ) {K : Int → Int → pS → Option (Int × pS)} {e a : Int} : ∀ (d k n : Nat), k + d = i → f_M_loads_84_p37 K (d + n + 1) (i : Int) e a (yc σ a k) (k : Int) τ = f_M_loads_84_p37 K (n + 1) (i : Int) e a (yc σ a i) (i : Int) τ
  | 0, k, n, hk => by
    have : k = i := by omega
    rw [this, Nat.zero_add]
  | d + 1, k, n, hk => by
    have g : (0 : Int) ≤ (k : Int) ∧ (k : Int) < 20 := by omega
    have ih := m_l37 hi hB (K := K) (e := e) (a := a) d (k + 1) n (by omega)
    rw [show d + 1 + n + 1 = (d + n + 1) + 1 by omega]
    refine Eq.trans ?_ ih
    obtain ⟨b1, b2, b3, b4⟩ := hB k (by omega)
    show (if (i : Int) ≤ (k : Int) then _ else _) = _
    rw [if_neg (by omega)]
    simp only [if_pos g, Int.toNat_natCast, m_cov (show k < 20 by omega), Option.bind_some, pw_s (show k < 20 by omega) (show 20 ≤ 100000 by decide), b1, b2]
    conv => rhs; unfold yc
    by_cases h1 : σ 5 k = 3
    · rw [if_pos h1]
      by_cases h2 : σ 39 k = 2
      · rw [if_pos h2, (b3 h1).1, (b4 h1 h2).1]
        by_cases h3 : σ 7 k ≤ pAnd (pw (a - σ 37 k)) 63
        · simp only [if_pos h3]
          rw [if_pos trivial, if_neg (fun z => absurd z.2.2 (Int.not_lt.mpr h3))]
        · simp only [if_neg h3]
          rw [if_neg (by decide), if_pos ⟨h1, h2, Int.not_le.mp h3⟩]
      · rw [if_neg h2, if_neg (fun z => h2 z.2.1)]
    · rw [if_neg h1, if_neg (fun z => h1 z.1)]
def P_tb (i k x : Nat) : Prop := (k = 36 ∧ x = i) ∨ (k = 38 ∧ 4 * i ≤ x ∧ x < 4 * i + 4)
def Q_tb (i k x : Nat) : Prop := (k = 120 ∧ x = i) ∨ (k = 124 ∧ 4 * i ≤ x ∧ x < 4 * i + 4)
theorem BL.fr {i : Nat} {σ τ σ' τ' : pS} (h : BL i σ τ) (h1 : ∀ k x, (k = 5 ∨ k = 7 ∨ k = 39 ∨ k = 36 ∨ k = 37) → x < i → σ' k x = σ k x) (h2 : ∀ k x, (k = 88 ∨ k = 93 ∨ k = 118 ∨ k = 120 ∨ k = 121) → x < i → τ' k x = τ k x) : BL i σ' τ' := by
  intro k hk
  rw [h1 5 k (by omega) hk, h1 7 k (by omega) hk, h1 39 k (by omega) hk, h1 36 k (by omega) hk, h1 37 k (by omega) hk, h2 88 k (by omega) hk, h2 93 k (by omega) hk, h2 118 k (by omega) hk, h2 120 k (by omega) hk, h2 121 k (by omega) hk]
  exact h k hk
/-- a load takes its bytes: the same in both -/
theorem tb_lp {i s : Nat} (hi : i < 20) (hs4 : s ≤ 4) : ∀ (d e fu1 fu2 : Nat) (σ τ : pS) (v : Int), e + d = s → d < fu1 → d < fu2 → σ 7 i = (s : Int) → τ 93 i = (s : Int) → τ 121 i = σ 37 i → BL i σ τ → (∀ x, x < 64 → σ 26 x = τ 127 x) → τ 120 i = v → (∀ q : Nat, q < e → σ 38 (4 * i + q) = τ 124 (4 * i + q) ∧ (σ 38 (4 * i + q) = -1 ∨ ∃ j : Nat, σ 38 (4 * i + q) = (j : Int) ∧ j < i ∧ σ 5 j = 3)) →
    ∃ σ' τ' v', f_Mach_takeBytes_3_p4 fu1 (i : Int) v (e : Int) σ = some (0, pU σ' 36 i v') ∧ f_M_loads_84_p9 fu2 (i : Int) (e : Int) τ = some (0, τ') ∧ τ' 120 i = v' ∧ (∀ q : Nat, q < s → σ' 38 (4 * i + q) = τ' 124 (4 * i + q) ∧ (σ' 38 (4 * i + q) = -1 ∨ ∃ j : Nat, σ' 38 (4 * i + q) = (j : Int) ∧ j < i ∧ σ 5 j = 3)) ∧ FR (P_tb i) σ σ' ∧ FR (Q_tb i) τ τ'
  | 0, e, fu1, fu2, σ, τ, v, he, h1, h2, s1, s2, hp, hB, hm, hv, hg => by
    obtain ⟨n1, rfl⟩ : ∃ n, fu1 = n + 1 := ⟨fu1 - 1, by omega⟩
    obtain ⟨n2, rfl⟩ : ∃ n, fu2 = n + 1 := ⟨fu2 - 1, by omega⟩
    have g : (0 : Int) ≤ (i : Int) ∧ (i : Int) < 20 := by omega
    refine ⟨σ, τ, v, ?_, ?_, hv, fun q hq => hg q (by omega), FR.rf _ _, FR.rf _ _⟩
    · show (if (0 : Int) ≤ (i : Int) ∧ (i : Int) < 20 then _ else _) = _
      rw [if_pos g, Int.toNat_natCast, s1, if_pos (by omega), if_pos g]
    · show (if (0 : Int) ≤ (i : Int) ∧ (i : Int) < 20 then _ else _) = _
      rw [if_pos g, Int.toNat_natCast, s2, if_pos (by omega)]
  | d + 1, e, fu1, fu2, σ, τ, v, he, h1, h2, s1, s2, hp, hB, hm, hv, hg => by
    obtain ⟨n1, rfl⟩ : ∃ n, fu1 = n + 1 := ⟨fu1 - 1, by omega⟩
    obtain ⟨n2, rfl⟩ : ∃ n, fu2 = n + 1 := ⟨fu2 - 1, by omega⟩
    have g : (0 : Int) ≤ (i : Int) ∧ (i : Int) < 20 := by omega
    have he4 : e < 4 := by omega
    have cn1 : ¬ (s : Int) ≤ (e : Int) := by omega
    have r63 := pAnd_63 (pw (σ 37 i + (e : Int)))
    have r64 : 0 ≤ atk (σ 37 i) e ∧ atk (σ 37 i) e < 64 := r63
    have r65 : (atk (σ 37 i) e).toNat < 64 := by omega
    have ix := ix4 hi he4
    have pws := pw_s he4 (show 4 ≤ 100000 by decide)
    -- the byte itself
    have byte : ∃ b : Int, f_Mach_takeBytes_3_p4 (n1 + 1) (i : Int) v (e : Int) σ = f_Mach_takeBytes_3_p4 n1 (i : Int) (pOr v (pShl b (pw (8 * (e : Int))))) ((e + 1 : Nat) : Int) (pU σ 38 (4 * i + e) (yc σ (atk (σ 37 i) e) i)) ∧ f_M_loads_84_p9 (n2 + 1) (i : Int) (e : Int) τ = f_M_loads_84_p9 n2 (i : Int) ((e + 1 : Nat) : Int) (pU (pU τ 124 (4 * i + e) (yc σ (atk (σ 37 i) e) i)) 120 i (pOr (τ 120 i) (pShl b (pw (8 * (e : Int)))))) := by
      have ey : f_Mach_youngestCovering_3 (i : Int) (pAnd (pw (σ 37 i + (e : Int))) 63) σ = some (yc σ (atk (σ 37 i) e) i, σ) := by
        unfold f_Mach_youngestCovering_3
        rw [pw_id (z := (i : Int) - 1) (by omega) (by omega)]
        exact c_yc (a := atk (σ 37 i) e) i 4096 (by omega) (by omega)
      have eX : f_Mach_takeBytes_3_p4 (n1 + 1) (i : Int) v (e : Int) σ = (if yc σ (atk (σ 37 i) e) i = -1 then (f_Mach_takeBytes_3_p69 (f_Mach_takeBytes_3_p4 n1) (i : Int) v (e : Int) (yc σ (atk (σ 37 i) e) i) (σ 26 (atk (σ 37 i) e).toNat) σ) else ((f_Mach_storedAt_3 (yc σ (atk (σ 37 i) e) i) (atk (σ 37 i) e) σ).bind fun q7 => (f_Mach_takeBytes_3_p69 (f_Mach_takeBytes_3_p4 n1) (i : Int) v (e : Int) (yc σ (atk (σ 37 i) e) i) q7.1 q7.2))) := by
        show (if (0 : Int) ≤ (i : Int) ∧ (i : Int) < 20 then _ else _) = _
        rw [if_pos g, Int.toNat_natCast, s1, if_neg cn1, if_pos g, ey, Option.bind_some, if_pos r63]
        rfl
      have e69 : ∀ (b : Int), f_Mach_takeBytes_3_p69 (f_Mach_takeBytes_3_p4 n1) (i : Int) v (e : Int) (yc σ (atk (σ 37 i) e) i) b σ = f_Mach_takeBytes_3_p4 n1 (i : Int) (pOr v (pShl b (pw (8 * (e : Int))))) ((e + 1 : Nat) : Int) (pU σ 38 (4 * i + e) (yc σ (atk (σ 37 i) e) i)) := fun b => by
        unfold f_Mach_takeBytes_3_p69
        rw [ix.1, if_pos ix.2.2, Int.toNat_natCast, pws]
      have e0 : yc σ (atk (σ 37 i) e) 0 = -1 := rfl
      have el := m_l37 (show i ≤ 20 by omega) hB (K := f_M_loads_84_p9 n2) (e := (e : Int)) (a := atk (σ 37 i) e) i 0 (4095 - i) (by omega)
      rw [show i + (4095 - i) + 1 = 4096 by omega, e0] at el
      have eM : f_M_loads_84_p9 (n2 + 1) (i : Int) (e : Int) τ = f_M_loads_84_p37 (f_M_loads_84_p9 n2) (4095 - i + 1) (i : Int) (e : Int) (atk (σ 37 i) e) (yc σ (atk (σ 37 i) e) i) (i : Int) τ := by
        show (if (0 : Int) ≤ (i : Int) ∧ (i : Int) < 20 then _ else _) = _
        rw [if_pos g, Int.toNat_natCast, s2, if_neg cn1, if_pos g, hp]
        exact el
      have e134 : ∀ (b : Int) (t : pS), f_M_loads_84_p134 (f_M_loads_84_p9 n2) (i : Int) (e : Int) b t = f_M_loads_84_p9 n2 (i : Int) ((e + 1 : Nat) : Int) (pU t 120 i (pOr (t 120 i) (pShl b (pw (8 * (e : Int)))))) := fun b t => by
        unfold f_M_loads_84_p134
        rw [if_pos g, if_pos g, Int.toNat_natCast, pws]
      have eM2 : f_M_loads_84_p37 (f_M_loads_84_p9 n2) (4095 - i + 1) (i : Int) (e : Int) (atk (σ 37 i) e) (yc σ (atk (σ 37 i) e) i) (i : Int) τ = (if yc σ (atk (σ 37 i) e) i = -1 then (f_M_loads_84_p134 (f_M_loads_84_p9 n2) (i : Int) (e : Int) (τ 127 (atk (σ 37 i) e).toNat) (pU τ 124 (4 * i + e) (yc σ (atk (σ 37 i) e) i))) else (if 0 ≤ yc σ (atk (σ 37 i) e) i ∧ yc σ (atk (σ 37 i) e) i < 20 then (if 0 ≤ yc σ (atk (σ 37 i) e) i ∧ yc σ (atk (σ 37 i) e) i < 20 then ((f_M_byteOf (τ 120 (yc σ (atk (σ 37 i) e) i).toNat) (pAnd (pw (atk (σ 37 i) e - (τ 121 (yc σ (atk (σ 37 i) e) i).toNat))) 63) (pU τ 124 (4 * i + e) (yc σ (atk (σ 37 i) e) i))).bind fun q10 => (f_M_loads_84_p134 (f_M_loads_84_p9 n2) (i : Int) (e : Int) q10.1 q10.2)) else none) else none)) := by
        show (if (i : Int) ≤ (i : Int) then _ else _) = _
        rw [if_pos (Int.le_refl _), ix.2.1, if_pos ix.2.2, Int.toNat_natCast, if_pos r64]
      rw [eX, eM, eM2]
      rcases yc_r σ (atk (σ 37 i) e) i with z | ⟨j, z1, z2, z3, z4, z5⟩
      · rw [z]
        rw [if_pos rfl, if_pos rfl, ← z, e69, e134, ← hm (atk (σ 37 i) e).toNat r65, pU_c _ _ _ _ (by decide)]
        exact ⟨_, rfl, rfl⟩
      · have gj : (0 : Int) ≤ (j : Int) ∧ (j : Int) < 20 := by omega
        obtain ⟨b1, b2, b3, b4⟩ := hB j z2
        obtain ⟨b5, b6⟩ := b4 z3 z4
        have r4 : 0 ≤ pAnd (pw (atk (σ 37 i) e - σ 37 j)) 63 ∧ pAnd (pw (atk (σ 37 i) e - σ 37 j)) 63 < 4 := ⟨(pAnd_63 _).1, Int.lt_of_lt_of_le z5 (b3 z3).2⟩
        have es : f_Mach_storedAt_3 (j : Int) (atk (σ 37 i) e) σ = some (pAnd (pUsh (σ 36 j) (pw (8 * (pAnd (pw (atk (σ 37 i) e - σ 37 j)) 63)))) 255, σ) := by
          unfold f_Mach_storedAt_3
          rw [if_pos gj, if_pos gj, Int.toNat_natCast]
        have nj : ¬ ((j : Int) = -1) := by omega
        have e69' := e69 (pAnd (pUsh (σ 36 j) (pw (8 * (pAnd (pw (atk (σ 37 i) e - σ 37 j)) 63)))) 255)
        rw [z1] at e69' ⊢
        rw [if_neg nj, if_neg nj, es, Option.bind_some, if_pos gj, if_pos gj, Int.toNat_natCast]
        unfold f_M_byteOf
        rw [Option.bind_some]
        dsimp only
        rw [e69', e134, b5, b6, bs_p _ _ r4, pU_c _ _ _ _ (by decide)]
        exact ⟨_, rfl, rfl⟩
    obtain ⟨b, k1, k2⟩ := byte
    clear r63 r64 r65 ix pws
    generalize hy : yc σ (atk (σ 37 i) e) i = y at k1 k2
    have ry := yc_r σ (atk (σ 37 i) e) i
    rw [hy] at ry
    have f1 : FR (P_tb i) σ (pU σ 38 (4 * i + e) y) := FR.u (Or.inr ⟨rfl, by omega, by omega⟩)
    have f2 : FR (Q_tb i) τ (pU (pU τ 124 (4 * i + e) y) 120 i (pOr (τ 120 i) (pShl b (pw (8 * (e : Int)))))) := (FR.u (Or.inr ⟨rfl, by omega, by omega⟩)).tr (FR.u (Or.inl ⟨rfl, rfl⟩))
    obtain ⟨σ', τ', v', q1, q2, q3, q4, q5, q6⟩ := tb_lp hi hs4 d (e + 1) n1 n2 (pU σ 38 (4 * i + e) y) (pU (pU τ 124 (4 * i + e) y) 120 i (pOr (τ 120 i) (pShl b (pw (8 * (e : Int)))))) (pOr v (pShl b (pw (8 * (e : Int))))) (by omega) (by omega) (by omega) ((f1.get (by unfold P_tb; omega)).trans s1) ((f2.get (by unfold Q_tb; omega)).trans s2) (by rw [f1.get (k := 37) (by unfold P_tb; omega), f2.get (k := 121) (by unfold Q_tb; omega)]; exact hp) (hB.fr (fun k x hk hx => f1.get (by unfold P_tb; omega)) (fun k x hk hx => f2.get (by unfold Q_tb; omega))) (fun x hx => by rw [f1.get (k := 26) (by unfold P_tb; omega), f2.get (k := 127) (by unfold Q_tb; omega)]; exact hm x hx) (by rw [pU_s, hv]) (fun q hq => by
      rw [pU_c (pU τ 124 (4 * i + e) y) _ _ _ (show (124 : Nat) ≠ 120 by decide)]
      by_cases hqe : q = e
      · rw [hqe, pU_s, pU_s]
        refine ⟨rfl, ?_⟩
        rcases ry with z | ⟨j, z1, z2, z3, -⟩
        · exact Or.inl z
        · exact Or.inr ⟨j, z1, z2, by rw [pU_c _ _ _ _ (by decide)]; exact z3⟩
      · rw [pU_i _ _ _ _ (by omega), pU_i _ _ _ _ (by omega)]
        obtain ⟨w1, w2⟩ := hg q (by omega)
        refine ⟨w1, ?_⟩
        rcases w2 with z | ⟨j, z1, z2, z3⟩
        · exact Or.inl z
        · exact Or.inr ⟨j, z1, z2, by rw [pU_c _ _ _ _ (by decide)]; exact z3⟩)
    refine ⟨σ', τ', v', k1.trans q1, k2.trans q2, q3, fun q hq => ?_, f1.tr q5, f2.tr q6⟩
    obtain ⟨w1, w2⟩ := q4 q hq
    refine ⟨w1, ?_⟩
    rcases w2 with z | ⟨j, z1, z2, z3⟩
    · exact Or.inl z
    · exact Or.inr ⟨j, z1, z2, by rw [pU_c _ _ _ _ (by decide)] at z3; exact z3⟩
