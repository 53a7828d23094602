/-- what a replay may write -/
def P_rq (k x : Nat) : Prop := P_mw k x ∨ k = 44
def Q_rq (k x : Nat) : Prop := Q_mw k x ∨ Q_li k x
theorem P_rq_N (k x : Nat) (h : P_rq k x) : PN k x := by unfold P_rq P_mw P_un at h; unfold PN; omega
theorem Q_rq_N (k x : Nat) (h : Q_rq k x) : QN k x := by unfold Q_rq Q_mw Q_un Q_li at h; unfold QN; omega
theorem dep_cg {σ σ' : pS} {k j : Nat} (h1 : FR P_rq σ σ') (h2 : σ' 39 k = σ 39 k) : dep σ' k j ↔ dep σ k j := by
  have a : ∀ q x, (q = 12 ∨ q = 13 ∨ q = 5 ∨ q = 7 ∨ q = 38) → σ' q x = σ q x := fun q x hq => h1.get (by unfold P_rq P_mw P_un; omega)
  unfold dep tkf
  rw [a 12 _ (by omega), a 13 _ (by omega), a 5 _ (by omega), a 7 _ (by omega), h2]
  constructor
  · rintro (q | q | ⟨q1, q2, e, e1, e2, e3⟩)
    · exact Or.inl q
    · exact Or.inr (Or.inl q)
    · rw [a 38 _ (by omega)] at e3
      exact Or.inr (Or.inr ⟨q1, q2, e, e1, e2, e3⟩)
  · rintro (q | q | ⟨q1, q2, e, e1, e2, e3⟩)
    · exact Or.inl q
    · exact Or.inr (Or.inl q)
    · rw [← a 38 _ (by omega)] at e3
      exact Or.inr (Or.inr ⟨q1, q2, e, e1, e2, e3⟩)
/-- the class's queue -/
def QC (σ : pS) (F : List Nat) : Prop := ∀ (a x : Nat), F[a]? = some x → σ 44 a = (x : Int)
/-- one in the queue: those that rest on it come into the queue -/
theorem c_in {m : Nat} {rec : Nat → O8} {D : Nat → Prop} {q i : Nat} {K : Int → Int → pS → Option (Int × pS)} (hi : i < 20) : ∀ (d k fu : Nat) (σ τ : pS) (F : List Nat), k + d = m → d < fu → PG m rec σ τ → RM m D σ τ → T2 m σ → QC σ F → F[i]? = some q → F.Nodup → (∀ x ∈ F, x < m ∧ σ 39 x = 0) →
    ∃ σ' τ' ks, f_Mach_replay_3_p37 K fu (F.length : Int) (i : Int) (k : Int) σ = K ((F ++ ks).length : Int) ((i + 1 : Nat) : Int) σ' ∧ Fl (fun x => σ 39 x ≠ 0 ∧ dep σ x q) k d ks ∧ mks ks τ = some τ' ∧ PG m rec σ' τ' ∧ RM m D σ' τ' ∧ T2 m σ' ∧ QC σ' (F ++ ks) ∧ (F ++ ks).Nodup ∧ (∀ x ∈ F ++ ks, x < m ∧ σ' 39 x = 0) ∧ (∀ x, x ∉ ks → σ' 39 x = σ 39 x) ∧ FR P_rq σ σ'
  | 0, k, fu, σ, τ, F, hk, hf, hG, h, hT, hQ, hq, hn, hF => by
    obtain ⟨n, rfl⟩ : ∃ n, fu = n + 1 := ⟨fu - 1, by omega⟩
    refine ⟨σ, τ, [], ?_, .nil k, rfl, hG, h, hT, by rw [List.append_nil]; exact hQ, by rw [List.append_nil]; exact hn, by rw [List.append_nil]; exact hF, fun _ _ => rfl, FR.rf _ _⟩
    show (if σ 4 11 ≤ (k : Int) then _ else _) = _
    rw [hG.cm, if_pos (by omega), pw_s hi (by decide), List.append_nil]
  | d + 1, k, fu, σ, τ, F, hk, hf, hG, h, hT, hQ, hq, hn, hF => by
    obtain ⟨n, rfl⟩ : ∃ n, fu = n + 1 := ⟨fu - 1, by omega⟩
    have hm := hG.le
    have g : (0 : Int) ≤ (k : Int) ∧ (k : Int) < 20 := by omega
    have gi : (0 : Int) ≤ (i : Int) ∧ (i : Int) < 20 := by omega
    have hkm : k < m := by omega
    have hFl := nd_le m F hn (fun x hx => (hF x hx).1)
    have e1 : pw ((k : Int) + 1) = ((k + 1 : Nat) : Int) := pw_s (show k < 20 by omega) (by decide)
    obtain ⟨b, b1, b2⟩ := c_dep hG (j := q) hkm
    have eX : f_Mach_replay_3_p37 K (n + 1) (F.length : Int) (i : Int) (k : Int) σ = (if σ 39 k = 0 then (f_Mach_replay_3_p37 K n (F.length : Int) (i : Int) ((k + 1 : Nat) : Int) σ) else (if (20 : Int) ≤ (F.length : Int) then (f_Mach_replay_3_p37 K n (F.length : Int) (i : Int) ((k + 1 : Nat) : Int) σ) else (if b = 0 then (f_Mach_replay_3_p37 K n (F.length : Int) (i : Int) ((k + 1 : Nat) : Int) σ) else ((f_Mach_makeWait_3 (k : Int) σ).bind fun q12 => (if 0 ≤ (F.length : Int) ∧ (F.length : Int) < 20 then (f_Mach_replay_3_p37 K n (pw ((F.length : Int) + 1)) (i : Int) ((k + 1 : Nat) : Int) (pU q12.2 44 F.length (k : Int))) else none))))) := by
      show (if σ 4 11 ≤ (k : Int) then _ else _) = _
      rw [hG.cm, if_neg (by omega), if_pos g, Int.toNat_natCast, e1, if_pos gi, Int.toNat_natCast, hQ i q hq, b1, Option.bind_some, Int.toNat_natCast]
    by_cases h0 : σ 39 k = 0
    · obtain ⟨σ', τ', ks, c1, c2, c3⟩ := c_in hi d (k + 1) n σ τ F (by omega) (by omega) hG h hT hQ hq hn hF
      refine ⟨σ', τ', ks, ?_, .no (fun z => z.1 h0) c2, c3⟩
      rw [eX, if_pos h0]
      exact c1
    · have hkF : k ∉ F := fun z => h0 (hF k z).2
      have hl : F.length < m := by
        have := nd_le m (k :: F) (List.nodup_cons.mpr ⟨hkF, hn⟩) (fun x hx => by
          rcases List.mem_cons.mp hx with rfl | z
          · exact hkm
          · exact (hF x z).1)
        simp at this
        omega
      rcases b2 with ⟨z1, z2⟩ | ⟨z1, z2⟩
      · obtain ⟨σ1, τ1, d1, d2, d3, d4, d5, d6, d7, d8⟩ := mw_ls hG h hT hkm
        have fq : FR P_rq σ (pU σ1 44 F.length (k : Int)) := (d5.mono (fun k x hh => Or.inl hh)).tr (FR.u (Or.inr rfl))
        have hG1 : PG m rec (pU σ1 44 F.length (k : Int)) τ1 := hG.fr (fq.mono P_rq_N) (d6.mono Q_mw_N)
        have h1 : RM m D (pU σ1 44 F.length (k : Int)) τ1 := d3.sno (FR.u (by unfold P_sno; omega)) (FR.rf _ _)
        have s39 : ∀ x, pU σ1 44 F.length (k : Int) 39 x = if x = k then 0 else σ 39 x := fun x => (pU_c _ _ _ _ (by decide)).trans (d7 x)
        have hT1 : T2 m (pU σ1 44 F.length (k : Int)) := fun x hx z => by
          rw [pU_c _ _ _ _ (by decide)] at z ⊢
          exact d4 x hx z
        obtain ⟨σ', τ', ks, c1, c2, c3, c4, c5, c6, c7, c8, c9, c10, c11⟩ := c_in hi (q := q) (K := K) d (k + 1) n (pU σ1 44 F.length (k : Int)) τ1 (F ++ [k]) (by omega) (by omega) hG1 h1 hT1 (fun a x hx => by
          by_cases ha : a = F.length
          · rw [ha, List.getElem?_append_right (Nat.le_refl _)] at hx
            simp at hx
            rw [ha, pU_s, hx]
          · have h1 : a < F.length := by
              have := (List.getElem?_eq_some_iff.mp hx).1
              rw [List.length_append] at this
              simp at this
              omega
            rw [List.getElem?_append_left h1] at hx
            rw [pU_i _ _ _ _ ha, d5.get (by unfold P_mw P_un; omega)]
            exact hQ a x hx) (by
          rw [List.getElem?_append_left (List.getElem?_eq_some_iff.mp hq).1]
          exact hq) (by
          rw [List.nodup_append]
          refine ⟨hn, by simp, fun a ha b hb => ?_⟩
          simp at hb
          rw [hb]
          exact fun e => hkF (e ▸ ha)) (fun x hx => by
          rw [List.mem_append] at hx
          rw [s39]
          rcases hx with hx | hx
          · have := hF x hx
            refine ⟨this.1, ?_⟩
            split
            · rfl
            · exact this.2
          · simp at hx
            rw [hx, if_pos rfl]
            exact ⟨hkm, rfl⟩)
        have hks : k ∉ ks := fun z => by
          have := (c2.mem k).mp z
          omega
        refine ⟨σ', τ', k :: ks, ?_, .yes ⟨h0, z2⟩ (c2.cg (fun x p1 p2 => by
          rw [s39, if_neg (by omega)]
          rw [dep_cg fq (by rw [s39, if_neg (by omega)])])), ?_, c4, c5, c6, by rw [List.append_assoc] at c7; exact c7, by rw [List.append_assoc] at c8; exact c8, by rw [List.append_assoc] at c9; exact c9, fun x hx => ?_, fq.tr c11⟩
        · rw [eX, if_neg h0, if_neg (by omega), if_neg (by omega), d1, Option.bind_some, if_pos (by omega), pw_s (show F.length < 20 by omega) (by decide)]
          rw [List.append_assoc] at c1
          have el : ((F ++ [k]).length : Int) = ((F.length + 1 : Nat) : Int) := by simp
          rw [el] at c1
          exact c1
        · show (mMk k τ).bind (mks ks) = _
          rw [d2]
          exact c3
        · rw [List.mem_cons] at hx
          rw [c10 x (fun z => hx (Or.inr z)), s39, if_neg (fun z => hx (Or.inl z))]
      · obtain ⟨σ', τ', ks, c1, c2, c3⟩ := c_in hi d (k + 1) n σ τ F (by omega) (by omega) hG h hT hQ hq hn hF
        refine ⟨σ', τ', ks, ?_, .no (fun z => z2 z.2) c2, c3⟩
        rw [eX, if_neg h0, if_neg (by omega), if_pos z1]
        exact c1
theorem FR.lk {P : Nat → Nat → Prop} {a b c d : pS} (h1 : FR P a b) (h2 : FR P a c) (h3 : FR P b d) : FR P c d := fun k x => by
  rcases h1 k x with h | e1
  · exact Or.inl h
  · rcases h2 k x with h | e2
    · exact Or.inl h
    · rcases h3 k x with h | e3
      · exact Or.inl h
      · exact Or.inr (by rw [e3, e1, e2])
theorem GV.fr {m : Nat} {D : Nat → Prop} {σ σ' : pS} (h : GV m D σ) (a : ∀ k x, (k = 5 ∨ k = 7 ∨ k = 38) → σ' k x = σ k x) : GV m D σ' := by
  intro k hk hD h5 e he
  rw [a 5 _ (by omega)] at h5
  rw [a 7 _ (by omega)] at he
  rw [a 38 _ (by omega), a 5 _ (by omega)]
  exact h k hk hD h5 e he
/-- the queue of the class and the list of the reference, gone through -/
theorem rp_lp {m : Nat} {rec : Nat → O8} {D : Nat → Prop} : ∀ (N fu1 fu2 : Nat) (s σ τ τh : pS) (A Q P R : List Nat), P.length + N = 400 → 20 < A.length + fu1 → N < fu2 → PG m rec s τ → RM m D s τ → T2 m s → GV m D s → mks Q τ = some τh → PG m rec σ τh → RM m D σ τh → T2 m σ → FR P_rq s σ → (∀ x, σ 39 x = if x ∈ Q then 0 else s 39 x) → QC σ (A ++ Q) → (A ++ Q).Nodup → (∀ x ∈ A ++ Q, x < m ∧ σ 39 x = 0) → RLt τ (P ++ R) → FO (fun x => τ 118 x = 0) R Q → (∀ x ∈ R, x < m) → (P ++ R).length ≤ 1 + 19 * A.length →
    ∃ σ' τ', f_Mach_replay_3_p16 fu1 ((A ++ Q).length : Int) (A.length : Int) σ = some (0, σ') ∧ f_M_replaysAll_84_p12 fu2 (P.length : Int) τ = some (0, τ') ∧ PG m rec σ' τ' ∧ RM m D σ' τ' ∧ T2 m σ' ∧ FR P_rq σ σ' ∧ FR Q_rq τ τ' := by
  intro N
  induction N with
  | zero =>
    intro fu1 fu2 s σ τ τh A Q P R hN h1 h2 hG h hT hV hk hGh hh hTh hfr hst hq hnd hF hL hFO hR hlen
    have := nd_le m (A ++ Q) hnd (fun x hx => (hF x hx).1)
    have := hG.le
    rw [List.length_append] at *
    omega
  | succ N ih =>
    intro fu1 fu2 s σ τ τh A Q P R hN h1 h2 hG h hT hV hk hGh hh hTh hfr hst hq hnd hF hL hFO hR hlen
    have hm := hG.le
    have hAQ := nd_le m (A ++ Q) hnd (fun x hx => (hF x hx).1)
    rw [List.length_append] at hAQ
    obtain ⟨n2, rfl⟩ : ∃ n, fu2 = n + 1 := ⟨fu2 - 1, by omega⟩
    obtain ⟨n1, rfl⟩ : ∃ n, fu1 = n + 1 := ⟨fu1 - 1, by omega⟩
    cases R with
    | nil =>
      cases hFO.iv0
      cases hk
      refine ⟨σ, τ, ?_, ?_, hGh, hh, hTh, FR.rf _ _, FR.rf _ _⟩
      · show (if ((A ++ []).length : Int) ≤ (A.length : Int) then _ else _) = _
        rw [List.append_nil, if_pos (Int.le_refl _)]
      · show (if τ 84 72 ≤ (P.length : Int) then _ else _) = _
        rw [hL.1, List.append_nil, if_pos (Int.le_refl _)]
    | cons x R' =>
      rcases hFO.iv with ⟨hS, hFO'⟩ | ⟨hS, Q', rfl, hFO'⟩
      ·
        have hx := hR x List.mem_cons_self
        have hlx : τ 131 P.length = (x : Int) := hL.2 P.length x (by rw [List.getElem?_append_right (Nat.le_refl _)]; simp)
        have eP : (P ++ [x]) ++ R' = P ++ x :: R' := by rw [List.append_assoc]; rfl
        have hlen' : P.length + (R'.length + 1) ≤ 1 + 19 * A.length := by rw [List.length_append] at hlen; exact hlen
        obtain ⟨σ', τ', q1, q2, q3⟩ := ih (n1 + 1) n2 s σ τ τh A Q (P ++ [x]) R' (by rw [List.length_append]; simp; omega) h1 (by omega) hG h hT hV hk hGh hh hTh hfr hst hq hnd hF (by rw [eP]; exact hL) hFO' (fun y hy => hR y (List.mem_cons_of_mem _ hy)) (by rw [eP]; exact hlen)
        refine ⟨σ', τ', q1, ?_, q3⟩
        have e1 : ((P ++ [x]).length : Int) = ((P.length + 1 : Nat) : Int) := by rw [List.length_append]; simp
        rw [e1] at q2
        show (if τ 84 72 ≤ (P.length : Int) then _ else _) = _
        rw [hL.1, if_neg (by rw [List.length_append]; simp; omega), if_pos (by omega), Int.toNat_natCast, hlx, if_pos (by omega), Int.toNat_natCast, if_pos hS, pw_s (show P.length < 400 by omega) (by decide)]
        exact q2
      ·
        have hx := hR x List.mem_cons_self
        have gx : (0 : Int) ≤ (x : Int) ∧ (x : Int) < 20 := by omega
        have hlx : τ 131 P.length = (x : Int) := hL.2 P.length x (by rw [List.getElem?_append_right (Nat.le_refl _)]; simp)
        have hlen' : P.length + (R'.length + 1) ≤ 1 + 19 * A.length := by rw [List.length_append] at hlen; exact hlen
        have hAl : A.length < m := by
          simp at hAQ
          omega
        have eP : (P ++ [x]) ++ (R' ++ []) = P ++ x :: R' := by rw [List.append_nil, List.append_assoc]; rfl
        -- the reference
        obtain ⟨τ1, ks, a1, a2, a3, a4⟩ := m_lst hx hV (m - (x + 1)) (x + 1) 4096 τ (P ++ x :: R') (by omega) (by omega) hG h hL (by rw [List.length_append]; simp; omega)
        obtain ⟨s2, τ2, b1, b2, b3, b4, b5, b6, b7, b8⟩ := mw_ls hG h hT hx
        have o1 := ov_of a4
        have o2 : mMk x τ1 = some (ov τ2 (τ1 131) (τ1 84 72)) := by
          rw [o1, mMk_ov, b2]
          rfl
        have lo : ∀ t : pS, FR Q_li t (ov t (τ1 131) (τ1 84 72)) := fun t k y => by
          by_cases hh : Q_li k y
          · exact Or.inl hh
          · exact Or.inr (ov_g _ _ _ (by unfold Q_li at hh; omega) (by unfold Q_li at hh; omega))
        have ls : ∀ t : pS, FR Q_sno t (ov t (τ1 131) (τ1 84 72)) := fun t => (lo t).mono (fun k y hh => by unfold Q_li at hh; unfold Q_sno; omega)
        have lN : ∀ t : pS, FR QN t (ov t (τ1 131) (τ1 84 72)) := fun t => (lo t).mono (fun k y hh => by unfold Q_li at hh; unfold QN; omega)
        -- the class
        have hk' : mks Q' τ2 = some τh := by
          have : (mMk x τ).bind (mks Q') = some τh := hk
          rw [b2] at this
          exact this
        obtain ⟨σ', τh', ks', c1, c2, c3, c4, c5, c6, c7, c8, c9, c10, c11⟩ := c_in (show A.length < 20 by omega) (q := x) (K := f_Mach_replay_3_p16 n1) (m - (x + 1)) (x + 1) 4096 σ τh (A ++ x :: Q') (by omega) (by omega) hGh hh hTh hq (by rw [List.getElem?_append_right (Nat.le_refl _)]; simp) hnd hF
        have eF : (A ++ x :: Q') ++ ks' = (A ++ [x]) ++ (Q' ++ ks') := by rw [List.append_assoc, List.append_assoc]; rfl
        have eL : (P ++ x :: R') ++ ks = (P ++ [x]) ++ (R' ++ ks) := by rw [List.append_assoc, List.append_assoc]; rfl
        have hkl := a2.len
        have sx : ∀ y, y < m → σ 39 y ≠ 0 → (y ∉ x :: Q' ∧ σ 39 y = s 39 y) := fun y hy hne => by
          have := hst y
          by_cases hyq : y ∈ x :: Q'
          · rw [if_pos hyq] at this
            exact absurd this hne
          · rw [if_neg hyq] at this
            exact ⟨hyq, this⟩
        obtain ⟨σe, τe, q1, q2, q3, q4, q5, q6, q7⟩ := ih n1 n2 s2 σ' (ov τ2 (τ1 131) (τ1 84 72)) (ov τh' (τ1 131) (τ1 84 72)) (A ++ [x]) (Q' ++ ks') (P ++ [x]) (R' ++ ks) (by rw [List.length_append]; simp; omega) (by rw [List.length_append]; simp; omega) (by omega)
          (hG.fr (b5.mono P_mw_N) ((b6.mono Q_mw_N).tr (lN _))) (b3.sno (FR.rf _ _) (ls _)) b4 (hV.fr (fun k y hk => b5.get (by unfold P_mw P_un; omega)))
          (by rw [mks_app, mks_ov, hk']; show (mks ks' (ov τh (τ1 131) (τ1 84 72))) = _; rw [mks_ov, c3]; rfl)
          (c4.fr (FR.rf _ _) (lN _)) (c5.sno (FR.rf _ _) (ls _)) c6
          (FR.lk hfr (b5.mono (fun k y hh => Or.inl hh)) c11)
          (fun y => by
            have hy := hst y
            by_cases y1 : y ∈ ks'
            · rw [if_pos (List.mem_append_right _ y1)]
              exact (c9 y (List.mem_append_right _ y1)).2
            · rw [c10 y y1, hy, b7 y]
              by_cases y2 : y ∈ Q'
              · rw [if_pos (List.mem_cons_of_mem _ y2), if_pos (List.mem_append_left _ y2)]
              · rw [if_neg (show y ∉ Q' ++ ks' from fun z => (List.mem_append.mp z).elim y2 y1)]
                by_cases y3 : y = x
                · rw [if_pos y3, if_pos (List.mem_cons.mpr (Or.inl y3))]
                · rw [if_neg y3, if_neg (fun z => (List.mem_cons.mp z).elim y3 y2)])
          (by rw [← eF]; exact c7) (by rw [← eF]; exact c8) (fun y hy => c9 y (by rw [eF]; exact hy))
          (by
            rw [← eL]
            refine ⟨?_, fun a y hy => ?_⟩
            · show (if (84 : Nat) = 131 then _ else if (84 : Nat) = 84 ∧ (72 : Nat) = 72 then _ else _) = _
              rw [if_neg (by decide), if_pos ⟨rfl, rfl⟩]
              exact a3.1
            · show (if (131 : Nat) = 131 then _ else _) = _
              rw [if_pos rfl]
              exact a3.2 a y hy)
          (by
            have hFO2 := hFO'.cg (S' := fun y => ov τ2 (τ1 131) (τ1 84 72) 118 y = 0) (fun y => by
              rw [ov_g _ _ _ (by decide) (by omega), b8 y]
              by_cases hy : y = x
              · rw [if_pos hy]
                exact ⟨fun _ => rfl, fun _ => Or.inr hy⟩
              · rw [if_neg hy]
                exact ⟨fun z => z.elim (fun z => z) (fun z => absurd z hy), Or.inl⟩)
            refine FO_app hFO2 a2 c2 (fun y y1 y2 => ?_)
            have ym : y < m := by omega
            have yx : y ≠ x := by omega
            have ys := h.st y ym
            rw [ov_g _ _ _ (by decide) (by omega), b8 y, if_neg yx, ← ys.1]
            constructor
            · rintro ⟨z1, z2⟩
              obtain ⟨w1, w2⟩ := sx y ym z1
              rw [dep_cg hfr w2] at z2
              exact ⟨⟨by rw [← w2]; exact z1, z2⟩, by rw [← w2]; exact z1, fun z => w1 (List.mem_cons_of_mem _ z)⟩
            · rintro ⟨⟨z1, z2⟩, -, z4⟩
              have w2 : σ 39 y = s 39 y := by
                rw [hst y, if_neg (fun z => (List.mem_cons.mp z).elim yx z4)]
              exact ⟨by rw [w2]; exact z1, (dep_cg hfr w2).mpr z2⟩)
          (fun y hy => by
            rcases List.mem_append.mp hy with z | z
            · exact hR y (List.mem_cons_of_mem _ z)
            · have := (a2.mem y).mp z
              omega)
          (by rw [← eL, List.length_append, List.length_append, List.length_append]; simp; omega)
        refine ⟨σe, τe, ?_, ?_, q3, q4, q5, c11.tr q6, ?_⟩
        · have e1 : pw ((x : Int) + 1) = ((x + 1 : Nat) : Int) := pw_s (show x < 20 by omega) (by decide)
          have hqx : σ 44 A.length = (x : Int) := hq A.length x (by rw [List.getElem?_append_right (Nat.le_refl _)]; simp)
          show (if ((A ++ x :: Q').length : Int) ≤ (A.length : Int) then _ else _) = _
          rw [if_neg (by rw [List.length_append]; simp; omega), if_neg (by omega), if_pos (by omega), Int.toNat_natCast, hqx, e1, c1, eF]
          have e2 : ((A ++ [x]).length : Int) = ((A.length + 1 : Nat) : Int) := by rw [List.length_append]; simp
          rw [e2] at q1
          exact q1
        · have hneg : ¬ (((P ++ x :: R').length : Nat) : Int) ≤ (P.length : Int) := by rw [List.length_append]; simp; omega
          have hpos : (0 : Int) ≤ (P.length : Int) ∧ (P.length : Int) < 400 := by omega
          have e1 : ((P ++ [x]).length : Int) = ((P.length + 1 : Nat) : Int) := by rw [List.length_append]; simp
          have e3 : pw ((x : Int) + 1) = ((x + 1 : Nat) : Int) := pw_s (show x < 20 by omega) (by decide)
          have e4 : pw ((P.length : Int) + 1) = ((P.length + 1 : Nat) : Int) := pw_s (show P.length < 400 by omega) (by decide)
          rw [e1] at q2
          have eL2 : f_M_listsThoseBy_84 (x : Int) τ = some (0, τ1) := by
            unfold f_M_listsThoseBy_84
            rw [e3]
            exact a1
          show (if τ 84 72 ≤ (P.length : Int) then _ else _) = _
          rw [hL.1, if_neg hneg, if_pos hpos, Int.toNat_natCast, hlx, if_pos gx, Int.toNat_natCast, if_neg hS, eL2, Option.bind_some]
          simp only [if_pos gx, e4]
          have o3 := o2
          unfold mMk at o3
          unfold mm1 at o3
          by_cases z1 : τ1 88 x = 3
          · rw [if_pos z1] at o3 ⊢
            by_cases z2 : τ1 126 x = 0
            · rw [if_pos z2] at o3 ⊢
              rw [Option.some.inj o3]
              exact q2
            · rw [if_neg z2] at o3 ⊢
              cases z3 : f_M_undoesTo_84 (x : Int) (pU (pU (pU τ1 118 x 0) 123 x (pw (τ1 123 x + 1))) 84 65 (pw (τ1 84 65 + 1))) with
              | none =>
                rw [z3] at o3
                cases o3
              | some w =>
                rw [z3] at o3
                have o4 : w.2 = _ := Option.some.inj o3
                rw [Option.bind_some, o4]
                exact q2
          · rw [if_neg z1] at o3 ⊢
            rw [Option.some.inj o3]
            exact q2
        · exact (((b6.mono (fun k y hh => Or.inl hh)).tr ((lo _).mono (fun k y hh => Or.inr hh))).tr q7)
/-- a replay: the same in both -/
theorem rp_ls {m : Nat} {rec : Nat → O8} {D : Nat → Prop} {σ τ : pS} {f : Nat} (hG : PG m rec σ τ) (h : RM m D σ τ) (hT : T2 m σ) (hV : GV m D σ) (hf : f < m) (hs : σ 39 f ≠ 0) : ∃ σ' τ', f_Mach_replay_3 (f : Int) σ = some (0, σ') ∧ f_M_replaysAll_84 (f : Int) τ = some (0, τ') ∧ PG m rec σ' τ' ∧ RM m D σ' τ' ∧ T2 m σ' ∧ FR P_rq σ σ' ∧ FR Q_rq τ τ' := by
  have hm := hG.le
  have a0 : RLt (pU τ 84 72 0) [] := ⟨pU_s _ _ _ _, fun a x hx => by simp at hx⟩
  obtain ⟨τ1, b1, b2, b3⟩ := m_li a0 (by decide) f
  have f1 : FR Q_li τ τ1 := (FR.u (Or.inr ⟨rfl, rfl⟩)).tr b3
  have hG1 : PG m rec σ τ1 := hG.fr (FR.rf _ _) (f1.mono (fun k x hh => by unfold Q_li at hh; unfold QN; omega))
  have h1 : RM m D σ τ1 := h.sno (FR.rf _ _) (f1.mono (fun k x hh => by unfold Q_li at hh; unfold Q_sno; omega))
  obtain ⟨σ2, τ2, c1, c2, c3, c4, c5, c6, c7, c8⟩ := mw_ls hG1 h1 hT hf
  have fq : FR P_rq σ (pU σ2 44 0 (f : Int)) := (c5.mono (fun k x hh => Or.inl hh)).tr (FR.u (Or.inr rfl))
  have s39 : ∀ x, pU σ2 44 0 (f : Int) 39 x = if x = f then 0 else σ 39 x := fun x => (pU_c _ _ _ _ (by decide)).trans (c7 x)
  obtain ⟨σ', τ', q1, q2, q3, q4, q5, q6, q7⟩ := rp_lp (rec := rec) (D := D) 400 4096 4096 σ (pU σ2 44 0 (f : Int)) τ1 τ2 [] [f] [] [f] rfl (by decide) (by decide) hG1 h1 hT hV (by show (mMk f τ1).bind _ = _; rw [c2]; rfl) (hG1.fr (fq.mono P_rq_N) (c6.mono Q_mw_N)) (c3.sno (FR.u (by unfold P_sno; omega)) (FR.rf _ _)) (fun x hx z => by
      rw [pU_c _ _ _ _ (by decide)] at z ⊢
      exact c4 x hx z) fq (fun x => by
      rw [s39]
      by_cases hx : x = f
      · rw [if_pos hx, if_pos (by rw [hx]; exact List.mem_singleton_self f)]
      · rw [if_neg hx, if_neg (fun z => hx (List.mem_singleton.mp z))]) (fun a x hx => by
      have hx : [f][a]? = some x := hx
      cases a with
      | zero =>
        simp at hx
        rw [pU_s, hx]
      | succ a => simp at hx) (by simp) (fun x hx => by
      have hx : x = f := List.mem_singleton.mp hx
      rw [s39, if_pos hx, hx]
      exact ⟨hf, rfl⟩) b2 (.take (fun z => hs (by rw [(h1.st f hf).1]; exact z)) (.nil _)) (fun x hx => by
      rw [List.mem_singleton.mp hx]
      exact hf) (by simp)
  refine ⟨σ', τ', ?_, ?_, q3, q4, q5, fq.tr q6, (f1.mono (fun k x hh => Or.inr hh)).tr q7⟩
  · unfold f_Mach_replay_3
    rw [c1, Option.bind_some]
    exact q1
  · unfold f_M_replaysAll_84
    rw [b1, Option.bind_some]
    exact q2
