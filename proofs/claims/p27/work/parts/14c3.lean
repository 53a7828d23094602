theorem tp_app {K : Ks} {op x : Int} : tp (K ++ [(op, x)]) = op := tp_s K (op, x)
theorem jk_none (op : Int) (K : Ks) : K ++ jk op none = K := List.append_nil K
theorem m_cond {T : Nat → Int} {n : Int} : ∀ (d w : Nat) (o p : Int) (c : Cd) (K : Ks) (τ : pS) (s : Int), 0 ≤ s → (c.length : Int) + s ≤ p → (K.length : Int) ≤ p → 1 ≤ K.length → 0 ≤ o → o ≤ 6 → 6 < tp K → 4 * (n - p) + rnk w < d →
    (w = 2 → ST τ T n p c K o → ∀ fi : Nat, n - p < fi → tEnd T n o K τ (f_M_readsCondition_84_p40 fi τ) (sCd T n d w o p c) (p + 1) s) ∧
    (w ≤ 1 → tp K ≠ 10 → tp K ≠ 11 → (w = 0 → tp K ≠ 12) → ST τ T n p c K o → ∀ fi : Nat, n - p < fi → dEnd T n o K w τ (f_M_readsCondition_84_p40 fi τ) (sCd T n d w o p c) (p + 1) s) ∧
    (w = 3 → tp K ≠ 10 → tp K ≠ 11 → tp K ≠ 12 → ∀ (fk fu : Nat) (cm : Cd) (O N : Option Nat), ST τ T n p cm (K ++ jk 12 O ++ jk 11 N) o → mk 124 O (pch 38 N cm) → mk 38 N cm → c = pch 124 O (pch 38 N cm) → hd T n p ≠ 38 → n - p < fk → n - p < fu → dEnd T n o K 3 τ (mBc fk fu τ) (sCd T n d w o p c) p s) ∧
    (w = 4 → tp K ≠ 10 → tp K ≠ 11 → ∀ (fk fu : Nat) (cm : Cd) (N : Option Nat), ST τ T n p cm (K ++ jk 11 N) o → mk 38 N cm → c = pch 38 N cm → n - p < fk → n - p < fu → dEnd T n o K 4 τ (mBc fk fu τ) (sCd T n d w o p c) p s) := by
  intro d
  induction d with
  | zero =>
    intro w o p c K τ s hs hl hk hk1 ho1 ho2 htp hd9
    have hrk : 1 ≤ rnk w := by unfold rnk; split <;> decide
    refine ⟨fun _ h => ?_, fun _ _ _ _ h => ?_, fun _ _ _ _ fk fu cm O N h => ?_, fun _ _ _ fk fu cm N h => ?_⟩
    all_goals
      have := h.1.2.2.1
      omega
  | succ d ih =>
    intro w o p c K τ s hs hl hk hk1 ho1 ho2 htp hd9
    match w, hd9 with
    | 0, hd9 =>
      refine ⟨fun h => absurd h (by decide), fun _ t10 t11 t12 h fi hfi => ?_, fun h => absurd h (by decide), fun h => absurd h (by decide)⟩
      have hd9 : 4 * (n - p) + 3 < ((d + 1 : Nat) : Int) := hd9
      have h1 := (ih 1 o p c K τ s hs hl hk hk1 ho1 ho2 htp (by show 4 * (n - p) + 2 < _; omega)).2.1 (by decide) t10 t11 (fun e => absurd e (by decide)) h fi hfi
      rw [sCd_0]
      cases hr : sCd T n d 1 o p c with
      | inr f =>
        rw [hr] at h1
        exact h1
      | inl q =>
        rw [hr] at h1
        obtain ⟨fk, fu, τ1, cm, O, N, a1, a2, a3, a4, ⟨a5, a5'⟩, a6, ⟨a7, a8, a9⟩, a10, a11, a12⟩ := h1
        have hb1 := a4.1.2.2.1
        have h2 := (ih 3 o q.1 q.2 K τ1 s hs a11 (by omega) hk1 ho1 ho2 htp (by show 4 * (n - q.1) + 1 < _; omega)).2.2.1 rfl t10 t11 (t12 rfl) fk fu cm O N a4 a5 a5' a6 a8 a2 a3
        exact h2.up a1 a10 (by omega) (Or.inl ⟨rfl, rfl⟩)
    | 1, hd9 =>
      refine ⟨fun h => absurd h (by decide), fun _ t10 t11 _ h fi hfi => ?_, fun h => absurd h (by decide), fun h => absurd h (by decide)⟩
      have hd9 : 4 * (n - p) + 2 < ((d + 1 : Nat) : Int) := hd9
      have h1 := (ih 2 o p c K τ s hs hl hk hk1 ho1 ho2 htp (by show 4 * (n - p) + 1 < _; omega)).1 rfl h fi hfi
      rw [sCd_1]
      cases hr : sCd T n d 2 o p c with
      | inr f =>
        rw [hr] at h1
        exact h1
      | inl q =>
        rw [hr] at h1
        obtain ⟨fk, fe, fu, τ1, a1, a2, a3, a4, a5, a6, a7, a8⟩ := h1
        have hb1 := a5.1.2.2.1
        rw [mE_0 a5 (by omega) t10 a3] at a1
        have h2 := (ih 4 o q.1 q.2 K τ1 s hs a7 (by omega) hk1 ho1 ho2 htp (by show 4 * (n - q.1) + 1 < _; omega)).2.2.2 rfl t10 t11 fk fu q.2 none (by rw [jk_none]; exact a5) (fun i e => by cases e) rfl a2 a4
        exact h2.up a1 a6 (by omega) (Or.inr (Or.inl ⟨rfl, rfl⟩))
    | 2, hd9 =>
      refine ⟨fun _ h fi hfi => ?_, fun h => absurd h (by decide), fun h => absurd h (by decide), fun h => absurd h (by decide)⟩
      have hd9 : 4 * (n - p) + 1 < ((d + 1 : Nat) : Int) := hd9
      have hPb := h.1.2.2.1
      obtain ⟨fi, rfl⟩ : ∃ k, fi = k + 1 := ⟨fi - 1, by omega⟩
      rw [sCd_2, f_M_readsCondition_84_p40, m_here h.1, Option.bind_some]
      dsimp only
      by_cases h33 : hd T n p = 33
      · have hp : p < n := hd_in (T := T) (by omega)
        rw [if_pos h33, if_pos h33]
        unfold f_M_readsCondition_84_p58
        rw [m_here h.1, Option.bind_some]
        dsimp only
        rw [if_pos h33]
        unfold f_M_readsCondition_84_p75
        have hop := m_opn h hp (by omega) ⟨ho1, ho2⟩ (a := 10) (by decide)
        by_cases ho : 6 ≤ o
        · obtain ⟨τ1, a1, b1, c1⟩ := hop.1 (by omega)
          rw [if_pos ho, a1, Option.bind_some]
          dsimp only
          rw [if_pos rfl]
          exact ⟨τ1, rfl, b1, c1⟩
        · obtain ⟨τ1, a1, b1, c1⟩ := hop.2 (by omega)
          rw [if_neg ho, a1, Option.bind_some]
          dsimp only
          rw [if_neg (by decide)]
          have hKl : ((K ++ [((10 : Int), (0 : Int))]).length : Int) = (K.length : Int) + 1 := by rw [List.length_append]; simp
          have h1 := (ih 2 (o + 1) (p + 1) c (K ++ [(10, 0)]) τ1 (s + 1) (by omega) (by omega) (by omega) (by omega) (by omega) (by omega) (by rw [tp_app]; decide) (by show 4 * (n - (p + 1)) + 1 < _; omega)).1 rfl b1 fi (by omega)
          cases hr2 : sCd T n d 2 (o + 1) (p + 1) c with
          | inr f =>
            rw [hr2] at h1
            obtain ⟨τ2, a2, b2, c2⟩ := h1
            exact ⟨τ2, a2, b2, c1.tr c2⟩
          | inl q =>
            rw [hr2] at h1
            obtain ⟨fk, fe, fu, τ2, a2, a3, a4, a5, a6, a7, a8, a9⟩ := h1
            have hb1 := a6.1.2.2.1
            obtain ⟨k, rfl⟩ : ∃ k, fe = k + 1 := ⟨fe - 1, by omega⟩
            obtain ⟨τ3, d3, e3, f3⟩ := m_e1 (fu := k) a6 (by omega) (by omega) (by omega)
            rw [show o + 1 - 1 = o by omega] at e3
            refine ⟨fk, k, fu, τ3, ?_, a3, by omega, a5, e3, (c1.tr a7).tr f3, by rw [List.length_append]; simp; omega, by dsimp only; omega⟩
            rw [a2]
            unfold mE
            rw [d3]
      · rw [if_neg h33, if_neg h33, m_here h.1, Option.bind_some]
        dsimp only
        by_cases h40 : hd T n p = 40
        · have hp : p < n := hd_in (T := T) (by omega)
          rw [if_pos h40, if_pos h40]
          unfold f_M_readsCondition_84_p58
          rw [m_here h.1, Option.bind_some]
          dsimp only
          rw [if_neg h33]
          unfold f_M_readsCondition_84_p75
          have hop := m_opn h hp (by omega) ⟨ho1, ho2⟩ (a := 13) (by decide)
          by_cases ho : 6 ≤ o
          · obtain ⟨τ1, a1, b1, c1⟩ := hop.1 (by omega)
            rw [if_pos ho, a1, Option.bind_some]
            dsimp only
            rw [if_pos rfl]
            exact ⟨τ1, rfl, b1, c1⟩
          · obtain ⟨τ1, a1, b1, c1⟩ := hop.2 (by omega)
            rw [if_neg ho, a1, Option.bind_some]
            dsimp only
            rw [if_neg (by decide)]
            have hKl : ((K ++ [((13 : Int), (0 : Int))]).length : Int) = (K.length : Int) + 1 := by rw [List.length_append]; simp
            have h1 := (ih 0 (o + 1) (p + 1) c (K ++ [(13, 0)]) τ1 s hs (by omega) (by omega) (by omega) (by omega) (by omega) (by rw [tp_app]; decide) (by show 4 * (n - (p + 1)) + 3 < _; omega)).2.1 (by decide) (by rw [tp_app]; decide) (by rw [tp_app]; decide) (fun _ => by rw [tp_app]; decide) b1 fi (by omega)
            cases hr2 : sCd T n d 0 (o + 1) (p + 1) c with
            | inr f =>
              rw [hr2] at h1
              obtain ⟨τ2, a2, b2, c2⟩ := h1
              exact ⟨τ2, a2, b2, c1.tr c2⟩
            | inl q =>
              rw [hr2] at h1
              obtain ⟨fk, fu, τ2, cm, O, N, a1, a2, a3, a4, ⟨a5, a5'⟩, a6, ⟨a7, a8, a9⟩, a10, a11, a12⟩ := h1
              have hb1 := a4.1.2.2.1
              have hcm : cm.length = q.2.length := by rw [a6, pch_len, pch_len]
              obtain ⟨k, rfl⟩ : ∃ k, fu = k + 1 := ⟨fu - 1, by omega⟩
              rw [a1]
              unfold mBc
              rw [f_M_readsCondition_84_p92, m_here a4.1, Option.bind_some]
              dsimp only
              by_cases h41 : hd T n q.1 = 41
              · have hq : q.1 < n := hd_in (T := T) (by omega)
                rw [if_pos h41, if_pos h41]
                obtain ⟨τ3, d3, e3, f3⟩ := la_all a4 a5 a5' (by omega) (by omega) (by rw [tp_app]; decide) (by rw [tp_app]; decide)
                rw [← a6] at e3
                have hlast := e3.2.2.1.last
                rw [d3, Option.bind_some]
                dsimp only
                rw [if_neg (show ¬ pw (τ3 84 25 - 1) = 0 by rw [hlast.1, pw_id (by omega) (by omega)]; omega), hlast.1, e3.2.2.2, e3.1.1, pw_id (z := (K.length : Int) + 1 - 1) (by omega) (by omega), pw_id (z := o + 1 - 1) (by omega) (by omega), pw_id (z := q.1 + 1) (by omega) (by omega)]
                refine ⟨fk, 4096, k, _, rfl, by dsimp only; omega, by omega, by dsimp only; omega, ?_, ?_, by dsimp only; omega, by dsimp only; omega⟩
                · refine ⟨?_, ⟨?_, fun i r hr => ?_⟩, ?_, ?_⟩
                  · exact e3.1.at (pU_s _ _ _ _) (by simp [pU]) (fun i => by simp [pU]) (by omega) (by dsimp only; omega)
                  · simp [pU, e3.2.1.1]
                  · rw [show ∀ x y z : Int, pU (pU (pU τ3 84 25 x) 84 23 y) 84 19 z 97 i = τ3 97 i from fun x y z => by simp [pU]]
                    exact e3.2.1.2 i r hr
                  · exact e3.2.2.1.pop (by rw [hlast.1]; simp [pU]) (fun i => by simp [pU])
                  · simp [pU]
                · exact (((c1.tr a10).tr f3).tr (FR.u (Or.inl ⟨rfl, by decide⟩))).tr ((FR.u (Or.inl ⟨rfl, by decide⟩)).tr (FR.u (Or.inl ⟨rfl, by decide⟩)))
              · rw [if_neg h41, if_neg h41, m_here a4.1, Option.bind_some]
                dsimp only
                rw [if_neg a8, m_here a4.1, Option.bind_some]
                dsimp only
                rw [if_neg (a9 (Or.inl rfl)), a4.1.1, m_wrong (by omega) (by omega), Option.bind_some]
                dsimp only
                rw [if_pos (by decide)]
                exact ⟨_, rfl, pU_s _ _ _ _, (c1.tr a10).tr (FR.u (Or.inl ⟨rfl, by decide⟩))⟩
        · rw [if_neg h40, if_neg h40]
          exact m_cmp h (Or.inr htp) hs hl hk ho1 ho2 hfi
    | 3, hd9 =>
      refine ⟨fun h => absurd h (by decide), fun h => absurd h (by decide), fun _ t10 t11 t12 fk fu cm O N h hO hN hc h38 hfk hfu => ?_, fun h => absurd h (by decide)⟩
      have hd9 : 4 * (n - p) + 1 < ((d + 1 : Nat) : Int) := hd9
      have hPb := h.1.2.2.1
      have hcm : cm.length = c.length := by rw [hc, pch_len, pch_len]
      rw [sCd_3]
      by_cases hc9 : hd T n p = 124
      · have hp : p < n := hd_in (T := T) (by omega)
        obtain ⟨k, rfl⟩ : ∃ k, fu = k + 1 := ⟨fu - 1, by omega⟩
        rw [if_pos hc9]
        unfold mBc
        rw [f_M_readsCondition_84_p92, m_here h.1, Option.bind_some]
        dsimp only
        rw [if_neg (by omega), m_here h.1, Option.bind_some]
        dsimp only
        rw [if_neg h38, m_here h.1, Option.bind_some]
        dsimp only
        rw [if_pos hc9]
        unfold f_M_readsCondition_84_p180
        rw [m_here h.1, Option.bind_some]
        dsimp only
        rw [if_pos hc9]
        unfold f_M_readsCondition_84_p195
        obtain ⟨τ1, a1, b1, c1⟩ := la_all h hO hN (by omega) (by omega) t11 t12
        rw [← hc] at b1
        rw [a1, Option.bind_some]
        dsimp only
        rw [m_here b1.1, Option.bind_some]
        dsimp only
        rw [if_neg h38]
        unfold f_M_readsCondition_84_p215
        obtain ⟨τ2, a2, b2, c2⟩ := m_jmp b1 hp (by omega) (by omega) (s := 124) (op := 12) (by decide)
        rw [a2, Option.bind_some]
        dsimp only
        have hKl : ((K ++ [((12 : Int), (c.length : Int))]).length : Int) = (K.length : Int) + 1 := by rw [List.length_append]; simp
        have h1 := (ih 1 o (p + 1) (c ++ [(124, 0)]) (K ++ [(12, (c.length : Int))]) τ2 s hs (by rw [List.length_append]; simp; omega) (by omega) (by omega) ho1 ho2 (by rw [tp_app]; decide) (by show 4 * (n - (p + 1)) + 2 < _; omega)).2.1 (by decide) (by rw [tp_app]; decide) (by rw [tp_app]; decide) (fun e => absurd e (by decide)) b2 fk (by omega)
        cases hr2 : sCd T n d 1 o (p + 1) (c ++ [(124, 0)]) with
        | inr f =>
          rw [hr2] at h1
          obtain ⟨τ3, a3, b3, c3⟩ := h1
          exact ⟨τ3, a3, b3, (c1.tr c2).tr c3⟩
        | inl q =>
          rw [hr2] at h1
          obtain ⟨fk1, fu1, τ3, cm3, O3, N3, e1, e2, e3, e4, ⟨e5, e5'⟩, e6, ⟨e7, e8, e9⟩, e10, e11, e12⟩ := h1
          obtain rfl := e7 (Or.inl rfl)
          rw [jk_none] at e4
          have e6 : q.2 = pch 38 N3 cm3 := e6
          have hb1 := e4.1.2.2.1
          obtain ⟨hm, _⟩ := (sCd_pre d 1 _ _ _ q (by decide) hr2).mark
          have h2 := (ih 3 o q.1 (q.2.set c.length (124, (q.2.length : Int))) K τ3 s hs (by rw [List.length_set]; exact e11) (by omega) hk1 ho1 ho2 htp (by show 4 * (n - q.1) + 1 < _; omega)).2.2.1 rfl t10 t11 t12 fk1 fu1 cm3 (some c.length) N3 e4 (fun i hi => by cases hi; exact ⟨0, by rw [← e6]; exact hm⟩) e5' (by rw [e6]; rfl) e8 e2 e3
          exact h2.up e1 ((c1.tr c2).tr e10) (by omega) (Or.inr (Or.inr rfl))
      · rw [if_neg hc9]
        exact ⟨fk, fu, τ, cm, O, N, rfl, hfk, hfu, h, ⟨hO, hN⟩, hc, ⟨fun e => absurd e (by decide), h38, fun _ => hc9⟩, FR.rf _ _, hl, Int.le_refl _⟩
    | 4, hd9 =>
      refine ⟨fun h => absurd h (by decide), fun h => absurd h (by decide), fun h => absurd h (by decide), fun _ t10 t11 fk fu cm N h hN hc hfk hfu => ?_⟩
      have hd9 : 4 * (n - p) + 1 < ((d + 1 : Nat) : Int) := hd9
      have hPb := h.1.2.2.1
      have hcm : cm.length = c.length := by rw [hc, pch_len]
      rw [sCd_4]
      by_cases hc9 : hd T n p = 38
      · have hp : p < n := hd_in (T := T) (by omega)
        obtain ⟨k, rfl⟩ : ∃ k, fu = k + 1 := ⟨fu - 1, by omega⟩
        rw [if_pos hc9]
        unfold mBc
        rw [f_M_readsCondition_84_p92, m_here h.1, Option.bind_some]
        dsimp only
        rw [if_neg (by omega), m_here h.1, Option.bind_some]
        dsimp only
        rw [if_pos hc9]
        unfold f_M_readsCondition_84_p180
        rw [m_here h.1, Option.bind_some]
        dsimp only
        rw [if_neg (by omega)]
        unfold f_M_readsCondition_84_p195
        obtain ⟨τ1, a1, b1, c1⟩ := la_and h hN (by omega) (by omega) t11
        rw [← hc] at b1
        rw [a1, Option.bind_some]
        dsimp only
        rw [m_here b1.1, Option.bind_some]
        dsimp only
        rw [if_pos hc9]
        unfold f_M_readsCondition_84_p215
        obtain ⟨τ2, a2, b2, c2⟩ := m_jmp b1 hp (by omega) (by omega) (s := 38) (op := 11) (by decide)
        rw [a2, Option.bind_some]
        dsimp only
        have hKl : ((K ++ [((11 : Int), (c.length : Int))]).length : Int) = (K.length : Int) + 1 := by rw [List.length_append]; simp
        have h1 := (ih 2 o (p + 1) (c ++ [(38, 0)]) (K ++ [(11, (c.length : Int))]) τ2 s hs (by rw [List.length_append]; simp; omega) (by omega) (by omega) ho1 ho2 (by rw [tp_app]; decide) (by show 4 * (n - (p + 1)) + 1 < _; omega)).1 rfl b2 fk (by omega)
        cases hr2 : sCd T n d 2 o (p + 1) (c ++ [(38, 0)]) with
        | inr f =>
          rw [hr2] at h1
          obtain ⟨τ3, a3, b3, c3⟩ := h1
          exact ⟨τ3, a3, b3, (c1.tr c2).tr c3⟩
        | inl q =>
          rw [hr2] at h1
          obtain ⟨fk1, fe1, fu1, τ3, e1, e2, e3, e4, e5, e6, e7, e8⟩ := h1
          have hb1 := e5.1.2.2.1
          rw [mE_0 e5 (by omega) (by rw [tp_app]; decide) e3] at e1
          obtain ⟨hm, _⟩ := (sCd_pre d 2 _ _ _ q (by decide) hr2).mark
          have h2 := (ih 4 o q.1 (q.2.set c.length (38, (q.2.length : Int))) K τ3 s hs (by rw [List.length_set]; exact e7) (by omega) hk1 ho1 ho2 htp (by show 4 * (n - q.1) + 1 < _; omega)).2.2.2 rfl t10 t11 fk1 fu1 q.2 (some c.length) e5 (fun i hi => by cases hi; exact ⟨0, hm⟩) rfl e2 e4
          exact h2.up e1 ((c1.tr c2).tr e6) (by omega) (Or.inr (Or.inr rfl))
      · rw [if_neg hc9]
        exact ⟨fk, fu, τ, cm, none, N, rfl, hfk, hfu, by rw [jk_none]; exact h, ⟨(fun i e => by cases e), hN⟩, hc, ⟨fun _ => rfl, hc9, fun e => by omega⟩, FR.rf _ _, hl, Int.le_refl _⟩
    | w + 5, _ => exact ⟨fun h => by omega, fun h => by omega, fun h => by omega, fun h => by omega⟩
/-- a condition in its brackets -/
def sCo (T : Nat → Int) (n p : Int) (c : Cd) : (Int × Cd) ⊕ Int := if hd T n p = 40 then (match sCd T n 1000 0 1 (p + 1) c with
    | .inr f => .inr f
    | .inl q => if hd T n q.1 = 41 then .inl (q.1 + 1, q.2) else .inr (-1000 * 1 - q.1)) else .inr (-1000 * 1 - p)
theorem c_rcond {T : Nat → Int} {n : Int} (hT : TB T n) {p : Int} {c : Cd} {σ : pS} {s : Int} (hP : TP σ T n p) (hC : CL σ c) (hs : 0 ≤ s) (hl : (c.length : Int) + s ≤ p) : match sCo T n p c with
    | .inr f => ∃ σ', ((f_Tape_accept_1 40 σ).bind fun q9 => (if q9.1 = 0 then (some (0, q9.2)) else ((rdC 40 0 1 q9.2).bind fun q11 => (if q11.1 = 0 then (some (0, q11.2)) else (f_Tape_accept_1 41 q11.2))))) = some (0, σ') ∧ σ' 1 4 = f ∧ FR PL σ σ'
    | .inl q => ∃ σ', ((f_Tape_accept_1 40 σ).bind fun q9 => (if q9.1 = 0 then (some (0, q9.2)) else ((rdC 40 0 1 q9.2).bind fun q11 => (if q11.1 = 0 then (some (0, q11.2)) else (f_Tape_accept_1 41 q11.2))))) = some (1, σ') ∧ TP σ' T n q.1 ∧ CL σ' q.2 ∧ FR PL σ σ' ∧ (q.2.length : Int) + s ≤ q.1 ∧ p + 1 ≤ q.1 := by
  have hPb := hP.2.2.1
  unfold sCo
  by_cases h40 : hd T n p = 40
  · have hp : p < n := hd_in (T := T) (by omega)
    obtain ⟨σ1, a1, b1, c1⟩ := c_acc1 hP h40 (by decide)
    rw [if_pos h40, a1, Option.bind_some]
    dsimp only
    rw [if_neg (by decide)]
    have h1 := (c_cond hT 1000 0 1 (p + 1) c σ1 s (by decide) b1 (hC.mv c1) hs (by omega) (by decide) (by decide) (by show 4 * (n - (p + 1)) + 3 < _; omega)).1 (by decide) 40 (by decide)
    cases hr : sCd T n 1000 0 1 (p + 1) c with
    | inr f =>
      rw [hr] at h1
      obtain ⟨σ2, a2, b2, c2⟩ := h1
      rw [a2, Option.bind_some]
      exact ⟨σ2, rfl, b2, c1.pl.tr c2⟩
    | inl q =>
      rw [hr] at h1
      obtain ⟨σ2, a2, b2, c2, d2, e2, f2⟩ := h1
      have hPb2 := b2.2.2.1
      rw [a2, Option.bind_some]
      dsimp only
      by_cases h41 : hd T n q.1 = 41
      · obtain ⟨σ3, a3, b3, c3⟩ := c_acc1 b2 h41 (by decide)
        rw [if_pos h41, if_neg (by decide), a3]
        exact ⟨σ3, rfl, b3, c2.mv c3, (c1.pl.tr d2).tr c3.pl, by dsimp only; omega, by dsimp only; omega⟩
      · obtain ⟨σ3, a3, b3, c3⟩ := c_acc0 b2 h41
        rw [if_neg h41, if_neg (by decide), a3]
        exact ⟨σ3, rfl, b3, (c1.pl.tr d2).tr c3.pl⟩
  · obtain ⟨σ1, a1, b1, c1⟩ := c_acc0 hP h40
    rw [if_neg h40, a1, Option.bind_some]
    exact ⟨σ1, rfl, b1, c1.pl⟩
theorem m_rcond {T : Nat → Int} {n o p : Int} {c : Cd} {K : Ks} {τ : pS} {s : Int} (h : ST τ T n p c K o) (hs : 0 ≤ s) (hl : (c.length : Int) + s ≤ p) : match sCo T n p c with
    | .inr f => ∃ τ', f_M_readsCondition_84 τ = some (0, τ') ∧ τ' 84 21 = f ∧ FR QL τ τ'
    | .inl q => ∃ τ' K' o', f_M_readsCondition_84 τ = some (1, τ') ∧ ST τ' T n q.1 q.2 K' o' ∧ FR QL τ τ' ∧ (q.2.length : Int) + s ≤ q.1 ∧ p + 1 ≤ q.1 := by
  have hPb := h.1.2.2.1
  unfold sCo f_M_readsCondition_84
  rw [m_here h.1, Option.bind_some]
  dsimp only
  by_cases h40 : hd T n p = 40
  · have hp : p < n := hd_in (T := T) (by omega)
    have h0 : ST (pU (pU τ 84 23 0) 84 25 0) T n p c [] 0 := by
      obtain ⟨h1, ⟨h2, h3⟩, hK, h6⟩ := h
      refine ⟨?_, ⟨?_, fun i q hq => ?_⟩, ⟨?_, fun i q hq => ?_⟩, ?_⟩
      · exact h1.at (by simp [pU, h1.1]) (by simp [pU]) (fun i => by simp [pU]) hPb.1 hPb.2.1
      · simp [pU, h2]
      · rw [show pU (pU τ 84 23 0) 84 25 0 97 i = τ 97 i by simp [pU]]
        exact h3 i q hq
      · simp [pU]
      · simp at hq
      · simp [pU]
    have f0 : FR QL τ (pU (pU τ 84 23 0) 84 25 0) := (FR.u (Or.inl ⟨rfl, by decide⟩)).tr (FR.u (Or.inl ⟨rfl, by decide⟩))
    obtain ⟨τ1, a1, b1, c1⟩ := (m_opn h0 hp (by decide) (by decide) (a := 13) (by decide)).2 (by decide)
    rw [if_pos h40, if_pos h40, a1, Option.bind_some]
    dsimp only
    rw [if_neg (by decide)]
    have b1 : ST τ1 T n (p + 1) c [(13, 0)] 1 := b1
    have htp : tp [((13 : Int), (0 : Int))] = 13 := rfl
    have h1 := (m_cond 1000 0 1 (p + 1) c [(13, 0)] τ1 s hs (by omega) (by show (1 : Int) ≤ p + 1; omega) (by decide) (by decide) (by decide) (by rw [htp]; decide) (by show 4 * (n - (p + 1)) + 3 < _; omega)).2.1 (by decide) (by rw [htp]; decide) (by rw [htp]; decide) (fun _ => by rw [htp]; decide) b1 4096 (by omega)
    cases hr : sCd T n 1000 0 1 (p + 1) c with
    | inr f =>
      rw [hr] at h1
      obtain ⟨τ2, a2, b2, c2⟩ := h1
      exact ⟨τ2, a2, b2, (f0.tr c1).tr c2⟩
    | inl q =>
      rw [hr] at h1
      obtain ⟨fk, fu, τ2, cm, O, N, a1, a2, a3, a4, ⟨a5, a5'⟩, a6, ⟨a7, a8, a9⟩, a10, a11, a12⟩ := h1
      have hb1 := a4.1.2.2.1
      have hcm : cm.length = q.2.length := by rw [a6, pch_len, pch_len]
      obtain ⟨k, rfl⟩ : ∃ k, fu = k + 1 := ⟨fu - 1, by omega⟩
      rw [a1]
      unfold mBc
      rw [f_M_readsCondition_84_p92, m_here a4.1, Option.bind_some]
      dsimp only
      by_cases h41 : hd T n q.1 = 41
      · have hq : q.1 < n := hd_in (T := T) (by omega)
        rw [if_pos h41, if_pos h41]
        obtain ⟨τ3, d3, e3, f3⟩ := la_all a4 a5 a5' (by decide) (by omega) (by rw [htp]; decide) (by rw [htp]; decide)
        rw [← a6] at e3
        have hl25 : τ3 84 25 = 1 := e3.2.2.1.1
        rw [d3, Option.bind_some]
        dsimp only
        have e9 : pw (τ3 84 25 - 1) = 0 := by rw [hl25]; decide
        rw [if_pos e9, e9, e3.1.1, e3.2.2.2, pw_id (z := q.1 + 1) (by omega) (by omega)]
        refine ⟨_, [], 0, rfl, ⟨?_, ⟨?_, fun i r hr => ?_⟩, ⟨?_, fun i r hr => ?_⟩, ?_⟩, ?_, by omega, by omega⟩
        · exact e3.1.at (pU_s _ _ _ _) (by simp [pU]) (fun i => by simp [pU]) (by omega) (by omega)
        · simp [pU, e3.2.1.1]
        · rw [show ∀ x y z : Int, pU (pU (pU τ3 84 25 x) 84 23 y) 84 19 z 97 i = τ3 97 i from fun x y z => by simp [pU]]
          exact e3.2.1.2 i r hr
        · simp [pU]
        · simp at hr
        · simp [pU]
          decide
        · exact ((((f0.tr c1).tr a10).tr f3).tr (FR.u (Or.inl ⟨rfl, by decide⟩))).tr ((FR.u (Or.inl ⟨rfl, by decide⟩)).tr (FR.u (Or.inl ⟨rfl, by decide⟩)))
      · rw [if_neg h41, if_neg h41, m_here a4.1, Option.bind_some]
        dsimp only
        rw [if_neg a8, m_here a4.1, Option.bind_some]
        dsimp only
        rw [if_neg (a9 (Or.inl rfl)), a4.1.1, m_wrong (by omega) (by omega), Option.bind_some]
        dsimp only
        rw [if_pos (by decide)]
        exact ⟨_, rfl, pU_s _ _ _ _, ((f0.tr c1).tr a10).tr (FR.u (Or.inl ⟨rfl, by decide⟩))⟩
  · rw [if_neg h40, if_neg h40, h.1.1, m_wrong (by omega) (by omega), Option.bind_some]
    dsimp only
    rw [if_pos (by decide)]
    exact ⟨_, rfl, pU_s _ _ _ _, FR.u (Or.inl ⟨rfl, by decide⟩)⟩
/-- a rule: its letter, where its condition begins, the place behind it, the codes -/
def sRu (T : Nat → Int) (n i p : Int) (c : Cd) : (Int × Int × Int × Cd) ⊕ Int := if hd T n p = 100 ∨ hd T n p = 120 then (if 16 ≤ i then .inr (-1000 * 4 - p) else (match (if hd T n p = 100 then sXp T n 1000 0 0 (p + 1) c else .inl (p + 1, c)) with
    | .inr f => .inr f
    | .inl q => (match sCo T n q.1 q.2 with
      | .inr f => .inr f
      | .inl u => .inl (hd T n p, (q.2.length : Int), u.1, u.2)))) else .inr (-1000 * 1 - p)
def PRu (i : Nat) (k x : Nat) : Prop := PL k x ∨ (k = 58 ∧ x = i) ∨ (k = 59 ∧ (x = i ∨ x = i + 1)) ∨ (k = 60 ∧ x = i)
theorem CL.u {σ : pS} {c : Cd} (h : CL σ c) {k : Nat} (i : Nat) (v : Int) (h1 : k ≠ 57) (h2 : k ≠ 61) (h3 : k ≠ 62) : CL (pU σ k i v) c := ⟨(pU_c _ _ _ _ (by omega)).trans h.1, fun j q hq => by rw [pU_c _ _ _ _ (by omega), pU_c _ _ _ _ (by omega)]; exact h.2 j q hq⟩
theorem FR.ru {i : Nat} {σ σ' : pS} (h : FR PL σ σ') : FR (PRu i) σ σ' := h.mono (fun _ _ h => Or.inl h)
theorem c_p73 {T : Nat → Int} {n : Int} (hT : TB T n) {p : Int} {c : Cd} {σ : pS} {i : Nat} (hi : i < 16) (hP : TP σ T n p) (hC : CL σ c) (hl : (c.length : Int) ≤ p) : match sCo T n p c with
    | .inr f => ∃ σ', f_Law_readRule_57_1_p73 (i : Int) σ = some (0, σ') ∧ σ' 1 4 = f ∧ FR (PRu i) σ σ'
    | .inl u => ∃ σ', f_Law_readRule_57_1_p73 (i : Int) σ = some (1, σ') ∧ TP σ' T n u.1 ∧ CL σ' u.2 ∧ (σ' 58 i = σ 58 i ∧ σ' 59 i = σ 59 i ∧ σ' 60 i = (c.length : Int) ∧ σ' 59 (i + 1) = (u.2.length : Int)) ∧ FR (PRu i) σ σ' ∧ (u.2.length : Int) ≤ u.1 ∧ p + 1 ≤ u.1 := by
  have h1 := c_rcond hT (s := 0) (σ := pU σ 60 i (σ 57 8)) (hP.u _ _ (by decide) (by decide)) (hC.u _ _ (by decide) (by decide) (by decide)) (Int.le_refl _) (by omega)
  have e : f_Law_readRule_57_1_p73 (i : Int) σ = (((f_Tape_accept_1 40 (pU σ 60 i (σ 57 8))).bind fun q9 => (if q9.1 = 0 then (some (0, q9.2)) else ((rdC 40 0 1 q9.2).bind fun q11 => (if q11.1 = 0 then (some (0, q11.2)) else (f_Tape_accept_1 41 q11.2))))).bind fun q => if q.1 = 0 then some (0, q.2) else some (1, pU q.2 59 (i + 1) (q.2 57 8))) := by
    unfold f_Law_readRule_57_1_p73
    rw [if_pos (by omega), Int.toNat_natCast]
    cases h2 : f_Tape_accept_1 40 (pU σ 60 i (σ 57 8)) with
    | none => simp
    | some q9 =>
      simp only [Option.bind_some]
      by_cases h3 : q9.1 = 0
      · rw [if_pos h3, if_pos h3, Option.bind_some, if_pos rfl]
      · rw [if_neg h3, if_neg h3]
        cases h4 : rdC 40 0 1 q9.2 with
        | none => simp
        | some q11 =>
          simp only [Option.bind_some]
          by_cases h5 : q11.1 = 0
          · rw [if_pos h5, if_pos h5, Option.bind_some, if_pos rfl]
          · rw [if_neg h5, if_neg h5]
            cases h6 : f_Tape_accept_1 41 q11.2 with
            | none => simp
            | some q13 =>
              simp only [Option.bind_some]
              by_cases h7 : q13.1 = 0
              · rw [if_pos h7, if_pos h7]
              · rw [if_neg h7, if_neg h7, pw_id (by omega) (by omega), if_pos (by omega), show ((i : Int) + 1).toNat = i + 1 by omega]
  have f0 : FR (PRu i) σ (pU σ 60 i (σ 57 8)) := FR.u (Or.inr (Or.inr (Or.inr ⟨rfl, rfl⟩)))
  rw [e]
  cases hr : sCo T n p c with
  | inr f =>
    rw [hr] at h1
    obtain ⟨σ1, a1, b1, c1⟩ := h1
    rw [a1, Option.bind_some]
    exact ⟨σ1, rfl, b1, f0.tr c1.ru⟩
  | inl u =>
    rw [hr] at h1
    obtain ⟨σ1, a1, b1, c1, d1, e1, f1⟩ := h1
    rw [a1, Option.bind_some]
    dsimp only
    rw [if_neg (by decide)]
    refine ⟨_, rfl, b1.u _ _ (by decide) (by decide), c1.u _ _ (by decide) (by decide) (by decide), ⟨?_, ?_, ?_, ?_⟩, (f0.tr d1.ru).tr (FR.u (Or.inr (Or.inr (Or.inl ⟨rfl, Or.inr rfl⟩)))), by omega, f1⟩
    · rw [pU_c _ _ _ _ (by decide), d1.get (by unfold PL; omega), pU_c _ _ _ _ (by decide)]
    · rw [pU_i _ _ _ _ (by omega), d1.get (by unfold PL; omega), pU_c _ _ _ _ (by decide)]
    · rw [pU_c _ _ _ _ (by decide), d1.get (by unfold PL; omega), pU_s]
      exact hC.1
    · rw [pU_s]
      exact c1.1
def rEnd (T : Nat → Int) (n p : Int) (c : Cd) (i : Nat) (σ : pS) (F : Option (Int × pS)) (r : (Int × Int × Int × Cd) ⊕ Int) : Prop := match r with
  | .inr f => ∃ σ', F = some (0, σ') ∧ σ' 1 4 = f ∧ FR (PRu i) σ σ'
  | .inl u => ∃ σ', F = some (1, σ') ∧ TP σ' T n u.2.2.1 ∧ CL σ' u.2.2.2 ∧ (σ' 58 i = u.1 ∧ σ' 59 i = (c.length : Int) ∧ σ' 60 i = u.2.1 ∧ σ' 59 (i + 1) = (u.2.2.2.length : Int)) ∧ FR (PRu i) σ σ' ∧ (u.2.2.2.length : Int) ≤ u.2.2.1 ∧ p + 1 ≤ u.2.2.1 ∧ i < 16
theorem c_rule {T : Nat → Int} {n : Int} (hT : TB T n) {p : Int} {c : Cd} {σ : pS} {i : Nat} (hi : i ≤ 16) (hP : TP σ T n p) (hC : CL σ c) (hl : (c.length : Int) ≤ p) : rEnd T n p c i σ (f_Law_readRule_57_1 (i : Int) σ) (sRu T n (i : Int) p c) := by
  have hPb := hP.2.2.1
  have e9 : (hd T n p = 100 ∨ hd T n p = 120) → rEnd T n p c i σ (f_Law_readRule_57_1_p23 (i : Int) (hd T n p) σ) (if 16 ≤ (i : Int) then .inr (-1000 * 4 - p) else (match (if hd T n p = 100 then sXp T n 1000 0 0 (p + 1) c else .inl (p + 1, c)) with
      | .inr f => .inr f
      | .inl q => (match sCo T n q.1 q.2 with
        | .inr f => .inr f
        | .inl u => .inl (hd T n p, (q.2.length : Int), u.1, u.2)))) := by
    intro hc
    have hp : p < n := hd_in (T := T) (by omega)
    unfold f_Law_readRule_57_1_p23
    by_cases h16 : 16 ≤ (i : Int)
    · rw [if_neg (by omega), c_fail hP (by omega), Option.bind_some]
      dsimp only
      rw [if_pos (by decide), if_pos h16]
      exact ⟨_, rfl, pU_s _ _ _ _, FR.u (Or.inl (Or.inl rfl))⟩
    · obtain ⟨hs1, hs2⟩ := c_step hP hp
      rw [if_pos (by omega), hs1, Option.bind_some]
      dsimp only
      rw [if_pos (by omega), if_pos (by omega), Int.toNat_natCast, if_neg h16]
      generalize hσ0 : pU (pU (pU σ 1 3 (p + 1)) 58 i (hd T n p)) 59 i (pU σ 1 3 (p + 1) 57 8) = σ0
      have hP0 : TP σ0 T n (p + 1) := by rw [← hσ0]; exact (hs2.u _ _ (by decide) (by decide)).u _ _ (by decide) (by decide)
      have hC0 : CL σ0 c := by rw [← hσ0]; exact ((hC.mv (CO.u _ _)).u _ _ (by decide) (by decide) (by decide)).u _ _ (by decide) (by decide) (by decide)
      have f0 : FR (PRu i) σ σ0 := by rw [← hσ0]; exact ((FR.u (Or.inl (Or.inl rfl))).tr (FR.u (Or.inr (Or.inl ⟨rfl, rfl⟩)))).tr (FR.u (Or.inr (Or.inr (Or.inl ⟨rfl, Or.inl rfl⟩))))
      have h58 : σ0 58 i = hd T n p := by rw [← hσ0, pU_c _ _ _ _ (by decide), pU_s]
      have h59 : σ0 59 i = (c.length : Int) := by rw [← hσ0, pU_s, pU_c _ _ _ _ (by decide)]; exact hC.1
      have fin : ∀ (σ1 : pS) (q : Int × Cd), TP σ1 T n q.1 → CL σ1 q.2 → (q.2.length : Int) ≤ q.1 → p + 1 ≤ q.1 → FR (PRu i) σ σ1 → σ1 58 i = hd T n p → σ1 59 i = (c.length : Int) → rEnd T n p c i σ (f_Law_readRule_57_1_p73 (i : Int) σ1) (match sCo T n q.1 q.2 with
          | .inr f => .inr f
          | .inl u => .inl (hd T n p, (q.2.length : Int), u.1, u.2)) := by
        intro σ1 q g1 g2 g3 g4 g5 g6 g7
        have h1 := c_p73 hT (i := i) (by omega) g1 g2 g3
        cases hr : sCo T n q.1 q.2 with
        | inr f =>
          rw [hr] at h1
          obtain ⟨σ2, a2, b2, c2⟩ := h1
          exact ⟨σ2, a2, b2, g5.tr c2⟩
        | inl u =>
          rw [hr] at h1
          obtain ⟨σ2, a2, b2, c2, ⟨d1, d2, d3, d4⟩, e2, f2, f3⟩ := h1
          exact ⟨σ2, a2, b2, c2, ⟨d1.trans g6, d2.trans g7, d3, d4⟩, g5.tr e2, f2, by dsimp only; omega, by omega⟩
      by_cases h100 : hd T n p = 100
      · rw [if_pos h100, if_pos h100]
        have h1 := c_expr hT (o := 0) (s := 1) hP0 hC0 (by decide) (by omega) (by decide) (by decide)
        cases hr : sXp T n 1000 0 0 (p + 1) c with
        | inr f =>
          rw [hr] at h1
          obtain ⟨σ1, a1, b1, c1⟩ := h1
          rw [a1, Option.bind_some]
          exact ⟨σ1, rfl, b1, f0.tr c1.ru⟩
        | inl q =>
          rw [hr] at h1
          obtain ⟨σ1, a1, b1, c1, d1, e1, f1⟩ := h1
          rw [a1, Option.bind_some]
          dsimp only
          rw [if_neg (show ¬ ((1 : Int) = 0) by decide)]
          exact fin σ1 q b1 c1 (by omega) (by omega) (f0.tr d1.ru) ((d1.get (by unfold PL; omega)).trans h58) ((d1.get (by unfold PL; omega)).trans h59)
      · rw [if_neg h100, if_neg h100]
        exact fin σ0 (p + 1, c) hP0 hC0 (by dsimp only; omega) (Int.le_refl _) f0 h58 h59
  unfold sRu f_Law_readRule_57_1
  rw [c_sign hP, Option.bind_some]
  dsimp only
  by_cases h100 : hd T n p = 100
  · have := e9 (Or.inl h100)
    rw [if_pos h100, if_pos (Or.inl h100)]
    exact this
  · by_cases h120 : hd T n p = 120
    · have := e9 (Or.inr h120)
      rw [if_neg h100, if_pos h120, if_pos (Or.inr h120)]
      exact this
    · rw [if_neg h100, if_neg h120, c_fail hP (by omega), Option.bind_some]
      dsimp only
      rw [if_pos (by decide), if_neg (by omega)]
      exact ⟨_, rfl, pU_s _ _ _ _, FR.u (Or.inl (Or.inl rfl))⟩
def QRu (i : Nat) (k x : Nat) : Prop := QL k x ∨ ((k = 99 ∨ k = 100 ∨ k = 101 ∨ k = 102) ∧ x = i) ∨ (k = 84 ∧ x = 26)
theorem FR.mru {i : Nat} {τ τ' : pS} (h : FR QL τ τ') : FR (QRu i) τ τ' := h.mono (fun _ _ h => Or.inl h)
theorem ST.u {τ : pS} {T : Nat → Int} {n p o : Int} {c : Cd} {K : Ks} (h : ST τ T n p c K o) {k : Nat} (i : Nat) (v : Int) (h1 : k ≠ 84) (h2 : k ≠ 96) (h3 : k ≠ 97) (h4 : k ≠ 98) : ST (pU τ k i v) T n p c K o := by
  obtain ⟨a1, ⟨a2, a3⟩, ⟨a4, a5⟩, a6⟩ := h
  refine ⟨a1.u _ _ h1 h2, ⟨(pU_c _ _ _ _ (Ne.symm h1)).trans a2, fun j q hq => ?_⟩, ⟨(pU_c _ _ _ _ (Ne.symm h1)).trans a4, fun j q hq => ?_⟩, (pU_c _ _ _ _ (Ne.symm h1)).trans a6⟩
  · rw [pU_c _ _ _ _ (Ne.symm h3)]
    exact a3 j q hq
  · rw [pU_c _ _ _ _ (Ne.symm h4)]
    exact a5 j q hq
theorem ST.u26 {τ : pS} {T : Nat → Int} {n p o : Int} {c : Cd} {K : Ks} (h : ST τ T n p c K o) (v : Int) : ST (pU τ 84 26 v) T n p c K o := by
  obtain ⟨a1, ⟨a2, a3⟩, ⟨a4, a5⟩, a6⟩ := h
  refine ⟨a1.at ((pU_i _ _ _ _ (by decide)).trans a1.1) (pU_i _ _ _ _ (by decide)) (fun i => pU_c _ _ _ _ (by decide)) a1.2.2.1.1 a1.2.2.1.2.1, ⟨(pU_i _ _ _ _ (by decide)).trans a2, fun j q hq => ?_⟩, ⟨(pU_i _ _ _ _ (by decide)).trans a4, fun j q hq => ?_⟩, (pU_i _ _ _ _ (by decide)).trans a6⟩
  · rw [pU_c _ _ _ _ (by decide)]
    exact a3 j q hq
  · rw [pU_c _ _ _ _ (by decide)]
    exact a5 j q hq
def qEnd (T : Nat → Int) (n p : Int) (c : Cd) (i : Nat) (τ : pS) (F : Option (Int × pS)) (r : (Int × Int × Int × Cd) ⊕ Int) : Prop := match r with
  | .inr f => ∃ τ', F = some (0, τ') ∧ τ' 84 21 = f ∧ FR (QRu i) τ τ'
  | .inl u => ∃ (τ' : pS) (K : Ks) (o : Int), F = some (1, τ') ∧ ST τ' T n u.2.2.1 u.2.2.2 K o ∧ (τ' 99 i = u.1 ∧ τ' 100 i = (c.length : Int) ∧ τ' 101 i = u.2.1 ∧ τ' 102 i = (u.2.2.2.length : Int)) ∧ τ' 84 26 = (i : Int) + 1 ∧ FR (QRu i) τ τ' ∧ (u.2.2.2.length : Int) ≤ u.2.2.1 ∧ p + 1 ≤ u.2.2.1 ∧ i < 16
theorem m_104 {T : Nat → Int} {n p o : Int} {c0 : Cd} {q : Int × Cd} {K : Ks} {τ0 τ : pS} {i : Nat} {lt : Int} (hi : i < 16) (h : ST τ T n q.1 q.2 K o) (h26 : τ 84 26 = (i : Int)) (hl : (q.2.length : Int) ≤ q.1) (hp : p + 1 ≤ q.1) (h99 : τ 99 i = lt) (h100 : τ 100 i = (c0.length : Int)) (hf : FR (QRu i) τ0 τ) : qEnd T n p c0 i τ0 (f_M_readsRule_84_p104 τ) (match sCo T n q.1 q.2 with
      | .inr f => .inr f
      | .inl u => .inl (lt, (q.2.length : Int), u.1, u.2)) := by
  unfold f_M_readsRule_84_p104
  rw [h26, if_pos (by omega), Int.toNat_natCast]
  have h1 := m_rcond (s := 0) (h.u (k := 101) i (τ 84 24) (by decide) (by decide) (by decide) (by decide)) (Int.le_refl _) (by omega)
  have f0 : FR (QRu i) τ (pU τ 101 i (τ 84 24)) := FR.u (Or.inr (Or.inl ⟨by decide, rfl⟩))
  cases hr : sCo T n q.1 q.2 with
  | inr f =>
    rw [hr] at h1
    obtain ⟨τ1, a1, b1, c1⟩ := h1
    rw [a1, Option.bind_some]
    exact ⟨τ1, rfl, b1, (hf.tr f0).tr c1.mru⟩
  | inl u =>
    rw [hr] at h1
    obtain ⟨τ1, K1, o1, a1, b1, c1, d1, e1⟩ := h1
    rw [a1, Option.bind_some]
    dsimp only
    have g26 : τ1 84 26 = (i : Int) := (c1.get (by unfold QL; omega)).trans ((pU_c _ _ _ _ (by decide)).trans h26)
    rw [if_neg (show ¬ ((1 : Int) = 0) by decide), if_pos (show 0 ≤ τ1 84 26 ∧ τ1 84 26 < 16 by omega), g26, Int.toNat_natCast, pw_id (by omega) (by omega)]
    refine ⟨_, K1, o1, rfl, (b1.u _ _ (by decide) (by decide) (by decide) (by decide)).u26 _, ⟨?_, ?_, ?_, ?_⟩, pU_s _ _ _ _, (((hf.tr f0).tr c1.mru).tr (FR.u (Or.inr (Or.inl ⟨by decide, rfl⟩)))).tr (FR.u (Or.inr (Or.inr ⟨rfl, rfl⟩))), by dsimp only; omega, by dsimp only; omega, hi⟩
    · rw [pU_c _ _ _ _ (by decide), pU_c _ _ _ _ (by decide), c1.get (by unfold QL; omega), pU_c _ _ _ _ (by decide)]
      exact h99
    · rw [pU_c _ _ _ _ (by decide), pU_c _ _ _ _ (by decide), c1.get (by unfold QL; omega), pU_c _ _ _ _ (by decide)]
      exact h100
    · rw [pU_c _ _ _ _ (by decide), pU_c _ _ _ _ (by decide), c1.get (by unfold QL; omega), pU_s]
      exact h.2.1.1
    · rw [pU_c _ _ _ _ (by decide), pU_s]
      exact b1.2.1.1
theorem m_rule {T : Nat → Int} {n p : Int} {c : Cd} {τ : pS} {i : Nat} (hi : i ≤ 16) (h : TM τ T n p ∧ ML τ c) (h26 : τ 84 26 = (i : Int)) (hl : (c.length : Int) ≤ p) : qEnd T n p c i τ (f_M_readsRule_84 τ) (sRu T n (i : Int) p c) := by
  have hPb := h.1.2.2.1
  have e9 : (hd T n p = 100 ∨ hd T n p = 120) → qEnd T n p c i τ (f_M_readsRule_84_p27 (hd T n p) τ) (if 16 ≤ (i : Int) then .inr (-1000 * 4 - p) else (match (if hd T n p = 100 then sXp T n 1000 0 0 (p + 1) c else .inl (p + 1, c)) with
      | .inr f => .inr f
      | .inl q => (match sCo T n q.1 q.2 with
        | .inr f => .inr f
        | .inl u => .inl (hd T n p, (q.2.length : Int), u.1, u.2)))) := by
    intro hc
    have hp : p < n := hd_in (T := T) (by omega)
    unfold f_M_readsRule_84_p27
    rw [h26]
    by_cases h16 : 16 ≤ (i : Int)
    · rw [if_pos (by omega), h.1.1, m_wrong (by omega) (by omega), Option.bind_some]
      dsimp only
      rw [if_pos (by decide), if_pos h16]
      exact ⟨_, rfl, pU_s _ _ _ _, FR.u (Or.inl (Or.inl ⟨rfl, by decide⟩))⟩
    · rw [if_neg (by omega), if_pos (by omega), if_pos (by omega), Int.toNat_natCast, h.1.1, pw_id (by omega) (by omega), if_neg h16]
      generalize hτ0 : pU (pU (pU (pU (pU τ 99 i (hd T n p)) 84 19 (p + 1)) 100 i (τ 84 24)) 84 23 0) 84 25 0 = τ0
      have hS0 : ST τ0 T n (p + 1) c [] 0 := by
        rw [← hτ0]
        obtain ⟨h1, ⟨h2, h3⟩⟩ := h
        refine ⟨?_, ⟨?_, fun j q hq => ?_⟩, ⟨?_, fun j q hq => ?_⟩, ?_⟩
        · exact h1.at (by simp [pU]) (by simp [pU]) (fun i => by simp [pU]) (by omega) (by omega)
        · simp [pU, h2]
        · rw [show pU (pU (pU (pU (pU τ 99 i (hd T n p)) 84 19 (p + 1)) 100 i (τ 84 24)) 84 23 0) 84 25 0 97 j = τ 97 j by simp [pU]]
          exact h3 j q hq
        · simp [pU]
        · simp at hq
        · simp [pU]
      have f0 : FR (QRu i) τ τ0 := by
        rw [← hτ0]
        exact ((((FR.u (Or.inr (Or.inl ⟨by decide, rfl⟩))).tr (FR.u (Or.inl (Or.inl ⟨rfl, by decide⟩)))).tr (FR.u (Or.inr (Or.inl ⟨by decide, rfl⟩)))).tr (FR.u (Or.inl (Or.inl ⟨rfl, by decide⟩)))).tr (FR.u (Or.inl (Or.inl ⟨rfl, by decide⟩)))
      have g99 : τ0 99 i = hd T n p := by rw [← hτ0]; simp [pU]
      have g100 : τ0 100 i = (c.length : Int) := by rw [← hτ0]; simp [pU, h.2.1]
      have g26 : τ0 84 26 = (i : Int) := by rw [← hτ0]; simp [pU, h26]
      by_cases h100 : hd T n p = 100
      · rw [if_neg (by omega), if_pos h100]
        have h1 := m_expr hS0 (Or.inl (by decide)) (s := 1) (by decide) (by omega) (by show (0 : Int) ≤ p + 1; omega) (by decide) (by decide)
        cases hr : sXp T n 1000 0 0 (p + 1) c with
        | inr f =>
          rw [hr] at h1
          obtain ⟨τ1, a1, b1, c1⟩ := h1
          rw [a1, Option.bind_some]
          exact ⟨τ1, rfl, b1, f0.tr c1.mru⟩
        | inl q =>
          rw [hr] at h1
          obtain ⟨τ1, a1, b1, c1, d1, e1⟩ := h1
          rw [a1, Option.bind_some]
          dsimp only
          rw [if_neg (show ¬ ((1 : Int) = 0) by decide)]
          exact m_104 (by omega) b1 ((c1.get (by unfold QL; omega)).trans g26) (by omega) (by omega) ((c1.get (by unfold QL; omega)).trans g99) ((c1.get (by unfold QL; omega)).trans g100) (f0.tr c1.mru)
      · rw [if_pos (by omega), if_neg h100]
        exact m_104 (q := (p + 1, c)) (by omega) hS0 g26 (by dsimp only; omega) (Int.le_refl _) g99 g100 f0
  unfold sRu f_M_readsRule_84
  rw [m_here h.1, Option.bind_some]
  dsimp only
  by_cases h100 : hd T n p = 100
  · have := e9 (Or.inl h100)
    rw [if_pos h100, if_pos (Or.inl h100)]
    exact this
  · by_cases h120 : hd T n p = 120
    · have := e9 (Or.inr h120)
      rw [if_neg h100, if_pos h120, if_pos (Or.inr h120)]
      exact this
    · rw [if_neg h100, if_neg h120, h.1.1, m_wrong (by omega) (by omega), Option.bind_some]
      dsimp only
      rw [if_pos (by decide), if_neg (by omega)]
      exact ⟨_, rfl, pU_s _ _ _ _, FR.u (Or.inl (Or.inl ⟨rfl, by decide⟩))⟩
theorem nm_b {T : Nat → Int} {n : Int} : ∀ (r : Nat) (v p : Int), 0 ≤ p → p ≤ n → match nm T n r v p with
    | .inr f => f < 0
    | .inl q => p ≤ q.2 ∧ q.2 ≤ n := by
  intro r
  induction r with
  | zero =>
    intro v p h0 h1
    by_cases hg : 48 ≤ hd T n p ∧ hd T n p ≤ 57
    · rw [nm_0t hg]
      dsimp only
      omega
    · rw [nm_f hg]
      exact ⟨Int.le_refl _, h1⟩
  | succ r ih =>
    intro v p h0 h1
    by_cases hg : 48 ≤ hd T n p ∧ hd T n p ≤ 57
    · have hp : p < n := hd_in (T := T) (by omega)
      rw [nm_t hg]
      have h2 := ih (10 * v + (hd T n p - 48)) (p + 1) (by omega) (by omega)
      split at h2
      · exact h2
      · exact ⟨by omega, h2.2⟩
    · rw [nm_f hg]
      exact ⟨Int.le_refl _, h1⟩
theorem sNum_b {T : Nat → Int} {n p : Int} (h0 : 0 ≤ p) (h1 : p ≤ n) : match sNum T n 5 p with
    | .inr f => f < 0
    | .inl q => p + 1 ≤ q.2 ∧ q.2 ≤ n := by
  cases hr : sNum T n 5 p with
  | inr f =>
    unfold sNum at hr
    split at hr
    · have h2 := nm_b (T := T) 5 0 p h0 h1
      rw [hr] at h2
      exact h2
    · cases hr
      dsimp only
      omega
  | inl q =>
    have hgt := sNum_gt (by decide) hr
    unfold sNum at hr
    split at hr
    · have h2 := nm_b (T := T) 5 0 p h0 h1
      rw [hr] at h2
      exact ⟨by omega, h2.2⟩
    · cases hr
/-- faults are below nought, places stay in the text -/
theorem sXp_b {T : Nat → Int} {n : Int} : ∀ (d w : Nat) (o p : Int) (c : Cd), w ≤ 4 → 0 ≤ p → p ≤ n → 4 * (n - p) + rnk w < d → match sXp T n d w o p c with
    | .inr f => f < 0
    | .inl q => (w ≤ 2 → p + 1 ≤ q.1) ∧ p ≤ q.1 ∧ q.1 ≤ n := by
  intro d
  induction d with
  | zero =>
    intro w o p c hw h0 h1 hd9
    have : 1 ≤ rnk w := by unfold rnk; split <;> decide
    omega
  | succ d ih =>
    intro w o p c hw h0 h1 hd9
    match w, hw, hd9 with
    | 0, _, hd9 =>
      have hd9 : 4 * (n - p) + 3 < ((d + 1 : Nat) : Int) := hd9
      rw [sXp_0]
      have a := ih 1 o p c (by decide) h0 h1 (by show 4 * (n - p) + 2 < _; omega)
      cases hr : sXp T n d 1 o p c with
      | inr f => rw [hr] at a; exact a
      | inl q =>
        rw [hr] at a
        obtain ⟨a1, a2, a3⟩ := a
        have a1 := a1 (by decide)
        have b := ih 3 o q.1 q.2 (by decide) (by omega) a3 (by show 4 * (n - q.1) + 1 < _; omega)
        dsimp only
        revert b
        cases sXp T n d 3 o q.1 q.2 with
        | inr f => exact fun b => b
        | inl u => exact fun ⟨_, b2, b3⟩ => ⟨fun _ => by omega, by omega, b3⟩
    | 1, _, hd9 =>
      have hd9 : 4 * (n - p) + 2 < ((d + 1 : Nat) : Int) := hd9
      rw [sXp_1]
      have a := ih 2 o p c (by decide) h0 h1 (by show 4 * (n - p) + 1 < _; omega)
      cases hr : sXp T n d 2 o p c with
      | inr f => rw [hr] at a; exact a
      | inl q =>
        rw [hr] at a
        obtain ⟨a1, a2, a3⟩ := a
        have a1 := a1 (by decide)
        have b := ih 4 o q.1 q.2 (by decide) (by omega) a3 (by show 4 * (n - q.1) + 1 < _; omega)
        dsimp only
        revert b
        cases sXp T n d 4 o q.1 q.2 with
        | inr f => exact fun b => b
        | inl u => exact fun ⟨_, b2, b3⟩ => ⟨fun _ => by omega, by omega, b3⟩
    | 2, _, hd9 =>
      have hd9 : 4 * (n - p) + 1 < ((d + 1 : Nat) : Int) := hd9
      rw [sXp_2]
      by_cases h91 : hd T n p = 91
      · have hp : p < n := hd_in (T := T) (by omega)
        rw [if_pos h91]
        by_cases ho : 6 ≤ o
        · rw [if_pos ho]
          dsimp only
          omega
        · rw [if_neg ho]
          have a := ih 0 (o + 1) (p + 1) c (by decide) (by omega) (by omega) (by show 4 * (n - (p + 1)) + 3 < _; omega)
          cases hr : sXp T n d 0 (o + 1) (p + 1) c with
          | inr f => rw [hr] at a; exact a
          | inl q =>
            rw [hr] at a
            obtain ⟨a1, a2, a3⟩ := a
            dsimp only
            by_cases h93 : hd T n q.1 = 93
            · have hq : q.1 < n := hd_in (T := T) (by omega)
              rw [if_pos h93]
              exact ⟨fun _ => by dsimp only; omega, by dsimp only; omega, by dsimp only; omega⟩
            · rw [if_neg h93]
              dsimp only
              omega
      · rw [if_neg h91]
        by_cases hg : 48 ≤ hd T n p ∧ hd T n p ≤ 57
        · rw [if_pos hg]
          have a := sNum_b (T := T) h0 h1
          cases hr : sNum T n 5 p with
          | inr f => rw [hr] at a; exact a
          | inl q => rw [hr] at a; exact ⟨fun _ => a.1, by dsimp only; have := a.1; omega, a.2⟩
        · rw [if_neg hg]
          by_cases hi : 0 ≤ pIdx (hd T n p)
          · have hp := pIdx_in hi
            rw [if_pos hi]
            exact ⟨fun _ => Int.le_refl _, by dsimp only; omega, by dsimp only; omega⟩
          · rw [if_neg hi]
            dsimp only
            omega
    | 3, _, hd9 =>
      have hd9 : 4 * (n - p) + 1 < ((d + 1 : Nat) : Int) := hd9
      rw [sXp_3]
      by_cases hc : hd T n p = 43 ∨ hd T n p = 45
      · have hp : p < n := hd_in (T := T) (by omega)
        rw [if_pos hc]
        have a := ih 1 o (p + 1) c (by decide) (by omega) (by omega) (by show 4 * (n - (p + 1)) + 2 < _; omega)
        cases hr : sXp T n d 1 o (p + 1) c with
        | inr f => rw [hr] at a; exact a
        | inl q =>
          rw [hr] at a
          obtain ⟨a1, a2, a3⟩ := a
          have b := ih 3 o q.1 (q.2 ++ [(hd T n p, 0)]) (by decide) (by omega) a3 (by show 4 * (n - q.1) + 1 < _; omega)
          dsimp only
          revert b
          cases sXp T n d 3 o q.1 (q.2 ++ [(hd T n p, 0)]) with
          | inr f => exact fun b => b
          | inl u => exact fun ⟨_, b2, b3⟩ => ⟨fun h => absurd h (by decide), by omega, b3⟩
      · rw [if_neg hc]
        exact ⟨fun h => absurd h (by decide), Int.le_refl _, h1⟩
    | 4, _, hd9 =>
      have hd9 : 4 * (n - p) + 1 < ((d + 1 : Nat) : Int) := hd9
      rw [sXp_4]
      by_cases hc : hd T n p = 42 ∨ hd T n p = 47 ∨ hd T n p = 37
      · have hp : p < n := hd_in (T := T) (by omega)
        rw [if_pos hc]
        have a := ih 2 o (p + 1) c (by decide) (by omega) (by omega) (by show 4 * (n - (p + 1)) + 1 < _; omega)
        cases hr : sXp T n d 2 o (p + 1) c with
        | inr f => rw [hr] at a; exact a
        | inl q =>
          rw [hr] at a
          obtain ⟨a1, a2, a3⟩ := a
          have b := ih 4 o q.1 (q.2 ++ [(hd T n p, 0)]) (by decide) (by omega) a3 (by show 4 * (n - q.1) + 1 < _; omega)
          dsimp only
          revert b
          cases sXp T n d 4 o q.1 (q.2 ++ [(hd T n p, 0)]) with
          | inr f => exact fun b => b
          | inl u => exact fun ⟨_, b2, b3⟩ => ⟨fun h => absurd h (by decide), by omega, b3⟩
      · rw [if_neg hc]
        exact ⟨fun h => absurd h (by decide), Int.le_refl _, h1⟩
theorem sXp_b0 {T : Nat → Int} {n o p : Int} {c : Cd} (h0 : 0 ≤ p) (h1 : p ≤ n) (hn : n ≤ 240) : match sXp T n 1000 0 o p c with
    | .inr f => f < 0
    | .inl q => p + 1 ≤ q.1 ∧ q.1 ≤ n := by
  have a := sXp_b (T := T) 1000 0 o p c (by decide) h0 h1 (by show 4 * (n - p) + 3 < _; omega)
  revert a
  cases sXp T n 1000 0 o p c with
  | inr f => exact fun a => a
  | inl q => exact fun ⟨a1, _, a3⟩ => ⟨a1 (by decide), a3⟩
theorem sCd_b {T : Nat → Int} {n : Int} (hn : n ≤ 240) : ∀ (d w : Nat) (o p : Int) (c : Cd), w ≤ 4 → 0 ≤ p → p ≤ n → 4 * (n - p) + rnk w < d → match sCd T n d w o p c with
    | .inr f => f < 0
    | .inl q => (w ≤ 2 → p + 1 ≤ q.1) ∧ p ≤ q.1 ∧ q.1 ≤ n := by
  intro d
  induction d with
  | zero =>
    intro w o p c hw h0 h1 hd9
    have : 1 ≤ rnk w := by unfold rnk; split <;> decide
    omega
  | succ d ih =>
    intro w o p c hw h0 h1 hd9
    match w, hw, hd9 with
    | 0, _, hd9 =>
      have hd9 : 4 * (n - p) + 3 < ((d + 1 : Nat) : Int) := hd9
      rw [sCd_0]
      have a := ih 1 o p c (by decide) h0 h1 (by show 4 * (n - p) + 2 < _; omega)
      cases hr : sCd T n d 1 o p c with
      | inr f => rw [hr] at a; exact a
      | inl q =>
        rw [hr] at a
        obtain ⟨a1, a2, a3⟩ := a
        have a1 := a1 (by decide)
        have b := ih 3 o q.1 q.2 (by decide) (by omega) a3 (by show 4 * (n - q.1) + 1 < _; omega)
        dsimp only
        revert b
        cases sCd T n d 3 o q.1 q.2 with
        | inr f => exact fun b => b
        | inl u => exact fun ⟨_, b2, b3⟩ => ⟨fun _ => by omega, by omega, b3⟩
    | 1, _, hd9 =>
      have hd9 : 4 * (n - p) + 2 < ((d + 1 : Nat) : Int) := hd9
      rw [sCd_1]
      have a := ih 2 o p c (by decide) h0 h1 (by show 4 * (n - p) + 1 < _; omega)
      cases hr : sCd T n d 2 o p c with
      | inr f => rw [hr] at a; exact a
      | inl q =>
        rw [hr] at a
        obtain ⟨a1, a2, a3⟩ := a
        have a1 := a1 (by decide)
        have b := ih 4 o q.1 q.2 (by decide) (by omega) a3 (by show 4 * (n - q.1) + 1 < _; omega)
        dsimp only
        revert b
        cases sCd T n d 4 o q.1 q.2 with
        | inr f => exact fun b => b
        | inl u => exact fun ⟨_, b2, b3⟩ => ⟨fun _ => by omega, by omega, b3⟩
    | 2, _, hd9 =>
      have hd9 : 4 * (n - p) + 1 < ((d + 1 : Nat) : Int) := hd9
      rw [sCd_2]
      by_cases h33 : hd T n p = 33
      · have hp : p < n := hd_in (T := T) (by omega)
        rw [if_pos h33]
        by_cases ho : 6 ≤ o
        · rw [if_pos ho]
          dsimp only
          omega
        · rw [if_neg ho]
          have a := ih 2 (o + 1) (p + 1) c (by decide) (by omega) (by omega) (by show 4 * (n - (p + 1)) + 1 < _; omega)
          cases hr : sCd T n d 2 (o + 1) (p + 1) c with
          | inr f => rw [hr] at a; exact a
          | inl q =>
            rw [hr] at a
            obtain ⟨a1, a2, a3⟩ := a
            exact ⟨fun _ => by dsimp only; omega, by dsimp only; omega, a3⟩
      · rw [if_neg h33]
        by_cases h40 : hd T n p = 40
        · have hp : p < n := hd_in (T := T) (by omega)
          rw [if_pos h40]
          by_cases ho : 6 ≤ o
          · rw [if_pos ho]
            dsimp only
            omega
          · rw [if_neg ho]
            have a := ih 0 (o + 1) (p + 1) c (by decide) (by omega) (by omega) (by show 4 * (n - (p + 1)) + 3 < _; omega)
            cases hr : sCd T n d 0 (o + 1) (p + 1) c with
            | inr f => rw [hr] at a; exact a
            | inl q =>
              rw [hr] at a
              obtain ⟨a1, a2, a3⟩ := a
              dsimp only
              by_cases h41 : hd T n q.1 = 41
              · have hq : q.1 < n := hd_in (T := T) (by omega)
                rw [if_pos h41]
                exact ⟨fun _ => by dsimp only; omega, by dsimp only; omega, by dsimp only; omega⟩
              · rw [if_neg h41]
                dsimp only
                omega
        · rw [if_neg h40]
          have a := sXp_b0 (T := T) (o := o) (c := c) h0 h1 hn
          cases hr : sXp T n 1000 0 o p c with
          | inr f => rw [hr] at a; exact a
          | inl q =>
            rw [hr] at a
            obtain ⟨a1, a2⟩ := a
            dsimp only
            by_cases hc : hd T n q.1 = 60 ∨ hd T n q.1 = 62 ∨ hd T n q.1 = 61
            · have hq : q.1 < n := hd_in (T := T) (by omega)
              rw [if_pos hc]
              have b := sXp_b0 (T := T) (o := o) (c := q.2) (p := q.1 + 1) (by omega) (by omega) hn
              cases hr2 : sXp T n 1000 0 o (q.1 + 1) q.2 with
              | inr f => rw [hr2] at b; exact b
              | inl u =>
                rw [hr2] at b
                obtain ⟨b1, b2⟩ := b
                exact ⟨fun _ => by dsimp only; omega, by dsimp only; omega, b2⟩
            · rw [if_neg hc]
              dsimp only
              omega
    | 3, _, hd9 =>
      have hd9 : 4 * (n - p) + 1 < ((d + 1 : Nat) : Int) := hd9
      rw [sCd_3]
      by_cases hc : hd T n p = 124
      · have hp : p < n := hd_in (T := T) (by omega)
        rw [if_pos hc]
        have a := ih 1 o (p + 1) (c ++ [(124, 0)]) (by decide) (by omega) (by omega) (by show 4 * (n - (p + 1)) + 2 < _; omega)
        cases hr : sCd T n d 1 o (p + 1) (c ++ [(124, 0)]) with
        | inr f => rw [hr] at a; exact a
        | inl q =>
          rw [hr] at a
          obtain ⟨a1, a2, a3⟩ := a
          have b := ih 3 o q.1 (q.2.set c.length (124, (q.2.length : Int))) (by decide) (by omega) a3 (by show 4 * (n - q.1) + 1 < _; omega)
          dsimp only
          revert b
          cases sCd T n d 3 o q.1 (q.2.set c.length (124, (q.2.length : Int))) with
          | inr f => exact fun b => b
          | inl u => exact fun ⟨_, b2, b3⟩ => ⟨fun h => absurd h (by decide), by omega, b3⟩
      · rw [if_neg hc]
        exact ⟨fun h => absurd h (by decide), Int.le_refl _, h1⟩
    | 4, _, hd9 =>
      have hd9 : 4 * (n - p) + 1 < ((d + 1 : Nat) : Int) := hd9
      rw [sCd_4]
      by_cases hc : hd T n p = 38
      · have hp : p < n := hd_in (T := T) (by omega)
        rw [if_pos hc]
        have a := ih 2 o (p + 1) (c ++ [(38, 0)]) (by decide) (by omega) (by omega) (by show 4 * (n - (p + 1)) + 1 < _; omega)
        cases hr : sCd T n d 2 o (p + 1) (c ++ [(38, 0)]) with
        | inr f => rw [hr] at a; exact a
        | inl q =>
          rw [hr] at a
          obtain ⟨a1, a2, a3⟩ := a
          have b := ih 4 o q.1 (q.2.set c.length (38, (q.2.length : Int))) (by decide) (by omega) a3 (by show 4 * (n - q.1) + 1 < _; omega)
          dsimp only
          revert b
          cases sCd T n d 4 o q.1 (q.2.set c.length (38, (q.2.length : Int))) with
          | inr f => exact fun b => b
          | inl u => exact fun ⟨_, b2, b3⟩ => ⟨fun h => absurd h (by decide), by omega, b3⟩
      · rw [if_neg hc]
        exact ⟨fun h => absurd h (by decide), Int.le_refl _, h1⟩
theorem sRu_b {T : Nat → Int} {n i p : Int} {c : Cd} (hn : n ≤ 240) (h0 : 0 ≤ p) (h1 : p ≤ n) {f : Int} (h : sRu T n i p c = .inr f) : f < 0 := by
  have co : ∀ (q : Int × Cd) (f : Int), 0 ≤ q.1 → q.1 ≤ n → sCo T n q.1 q.2 = .inr f → f < 0 := by
    intro q f g0 g1 g
    unfold sCo at g
    by_cases h40 : hd T n q.1 = 40
    · have hp : q.1 < n := hd_in (T := T) (by omega)
      rw [if_pos h40] at g
      have a := sCd_b (T := T) hn 1000 0 1 (q.1 + 1) q.2 (by decide) (by omega) (by omega) (by show 4 * (n - (q.1 + 1)) + 3 < _; omega)
      cases hr : sCd T n 1000 0 1 (q.1 + 1) q.2 with
      | inr z => rw [hr] at a g; cases g; exact a
      | inl u =>
        rw [hr] at a g
        obtain ⟨a1, a2, a3⟩ := a
        dsimp only at g
        split at g
        · cases g
        · cases g
          omega
    · rw [if_neg h40] at g
      cases g
      omega
  unfold sRu at h
  by_cases hc : hd T n p = 100 ∨ hd T n p = 120
  · have hp : p < n := hd_in (T := T) (by omega)
    rw [if_pos hc] at h
    by_cases h16 : 16 ≤ i
    · rw [if_pos h16] at h
      cases h
      omega
    · rw [if_neg h16] at h
      have fin : ∀ q : Int × Cd, 0 ≤ q.1 → q.1 ≤ n → (match sCo T n q.1 q.2 with
          | .inr f => (.inr f : (Int × Int × Int × Cd) ⊕ Int)
          | .inl u => .inl (hd T n p, (q.2.length : Int), u.1, u.2)) = .inr f → f < 0 := by
        intro q g0 g1 g
        cases hr : sCo T n q.1 q.2 with
        | inr z => rw [hr] at g; cases g; exact co q _ g0 g1 hr
        | inl u => rw [hr] at g; cases g
      by_cases h100 : hd T n p = 100
      · rw [if_pos h100] at h
        have a := sXp_b0 (T := T) (o := 0) (c := c) (p := p + 1) (by omega) (by omega) hn
        cases hr : sXp T n 1000 0 0 (p + 1) c with
        | inr z => rw [hr] at a h; cases h; exact a
        | inl q => rw [hr] at a h; exact fin q (by have := a.1; omega) a.2 h
      · rw [if_neg h100] at h
        exact fin (p + 1, c) (by dsimp only; omega) (by dsimp only; omega) h
  · rw [if_neg hc] at h
    cases h
    omega
/-- how high the stack stands ahead of code i (-1: one number alone, 0 or 1) -/
def OKc (K : Nat → Int) (b i : Nat) (s v : Int) : Prop :=
  ((s = 48 ∨ (s = 97 ∧ 0 ≤ v ∧ v < 7)) ∧ 0 ≤ K i ∧ K i ≤ 30 ∧ K (i + 1) = K i + 1) ∨
  ((s = 43 ∨ s = 45 ∨ s = 42 ∨ s = 47 ∨ s = 37) ∧ 2 ≤ K i ∧ K i ≤ 31 ∧ K (i + 1) = K i - 1) ∨
  ((s = 60 ∨ s = 62 ∨ s = 61) ∧ K i = 2 ∧ K (i + 1) = -1) ∨
  (s = 33 ∧ K i = -1 ∧ K (i + 1) = -1) ∨
  ((s = 38 ∨ s = 124) ∧ K i = -1 ∧ K (i + 1) = 0 ∧ (i : Int) < v ∧ v ≤ (b : Int) ∧ K v.toNat = -1)
def WT (c : Cd) (K : Nat → Int) (a b : Nat) : Prop := ∀ i, a ≤ i → i < b → ∃ s v, c[i]? = some (s, v) ∧ OKc K b i s v
theorem OKc.cg {K K' : Nat → Int} {b b' i : Nat} {s v : Int} (h : OKc K b i s v) (hb : b ≤ b') (e : ∀ j, i ≤ j → j ≤ b → K' j = K j) (hi : i < b) : OKc K' b' i s v := by
  unfold OKc at *
  rw [e i (Nat.le_refl _) (by omega), e (i + 1) (by omega) (by omega)]
  rcases h with h | h | h | h | ⟨x1, x2, x3, x4, x5, x6⟩
  · exact Or.inl h
  · exact Or.inr (Or.inl h)
  · exact Or.inr (Or.inr (Or.inl h))
  · exact Or.inr (Or.inr (Or.inr (Or.inl h)))
  · exact Or.inr (Or.inr (Or.inr (Or.inr ⟨x1, x2, x3, x4, by omega, by rw [e v.toNat (by omega) (by omega)]; exact x6⟩)))
def jn (K1 K2 : Nat → Int) (m : Nat) : Nat → Int := fun i => if i ≤ m then K1 i else K2 i
theorem jn_lo (K1 K2 : Nat → Int) {m i : Nat} (h : i ≤ m) : jn K1 K2 m i = K1 i := if_pos h
theorem jn_hi {K1 K2 : Nat → Int} {m : Nat} (e : K1 m = K2 m) {i : Nat} (h : m ≤ i) : jn K1 K2 m i = K2 i := by
  unfold jn
  by_cases q : i ≤ m
  · have : i = m := by omega
    rw [if_pos q, this, e]
  · rw [if_neg q]
theorem WT.jn {c1 c2 : Cd} {K1 K2 : Nat → Int} {a m b : Nat} (h1 : WT c1 K1 a m) (hp : ∀ i, i < m → c2[i]? = c1[i]?) (h2 : WT c2 K2 m b) (e : K1 m = K2 m) (hmb : m ≤ b) : WT c2 (jn K1 K2 m) a b := by
  intro i ha hb
  by_cases hi : i < m
  · obtain ⟨s, v, hc, ho⟩ := h1 i ha hi
    exact ⟨s, v, (hp i hi).trans hc, ho.cg hmb (fun j _ h => jn_lo _ _ h) hi⟩
  · obtain ⟨s, v, hc, ho⟩ := h2 i (by omega) hb
    exact ⟨s, v, hc, ho.cg (Nat.le_refl _) (fun j h _ => jn_hi e (by omega)) hb⟩
theorem WT.pre {c c' : Cd} {K : Nat → Int} {a b : Nat} (h : WT c K a b) (hp : Pre c c') : WT c' K a b := by
  intro i ha hb
  obtain ⟨s, v, hc, ho⟩ := h i ha hb
  have hl : i < c.length := (List.getElem?_eq_some_iff.mp hc).1
  exact ⟨s, v, (hp.2 i hl).trans hc, ho⟩
def st1 (n : Nat) (u u' : Int) : Nat → Int := fun i => if i ≤ n then u else u'
theorem st1_0 (n : Nat) (u u' : Int) : st1 n u u' n = u := if_pos (Nat.le_refl _)
theorem st1_1 (n : Nat) (u u' : Int) : st1 n u u' (n + 1) = u' := if_neg (by omega)
theorem WT.one {c : Cd} {s v u u' : Int} (h : OKc (st1 c.length u u') (c.length + 1) c.length s v) : WT (c ++ [(s, v)]) (st1 c.length u u') c.length (c.length + 1) := by
  intro i ha hb
  have : i = c.length := by omega
  subst this
  exact ⟨s, v, by rw [List.getElem?_append_right (Nat.le_refl _)]; simp, h⟩
def wx (w : Nat) : Int := match w with
  | 0 => 0
  | 1 => 1
  | 2 => 2
  | 3 => 0
  | _ => 1
def kst (w : Nat) (u : Int) : Int := match w with
  | 0 => u
  | 1 => u
  | 2 => u
  | _ => u + 1
theorem pIdx_lt (c : Int) : pIdx c < 7 := by
  unfold pIdx
  repeat' split
  all_goals decide
/-- codes c to c', from one height to another -/
def Sg (c c' : Cd) (u v : Int) : Prop := Pre c c' ∧ ∃ K, WT c' K c.length c'.length ∧ K c.length = u ∧ K c'.length = v
theorem Sg.rf (c : Cd) (u : Int) : Sg c c u u := ⟨Pre.rf _, fun _ => u, fun i h1 h2 => absurd h1 (by omega), rfl, rfl⟩
theorem Sg.tr {a b c : Cd} {u v w : Int} (h1 : Sg a b u v) (h2 : Sg b c v w) : Sg a c u w := by
  obtain ⟨p1, K1, w1, a1, b1⟩ := h1
  obtain ⟨p2, K2, w2, a2, b2⟩ := h2
  refine ⟨p1.tr p2, jn K1 K2 b.length, w1.jn (fun i hi => p2.2 i hi) w2 (b1.trans a2.symm) p2.1, ?_, ?_⟩
  · rw [jn_lo _ _ p1.1]; exact a1
  · rw [jn_hi (b1.trans a2.symm) p2.1]; exact b2
theorem Sg.one {c : Cd} {s v u u' : Int} (h : OKc (st1 c.length u u') (c.length + 1) c.length s v) : Sg c (c ++ [(s, v)]) u u' := by
  have e : (c ++ [(s, v)]).length = c.length + 1 := by rw [List.length_append]; rfl
  refine ⟨Pre.app _ _, st1 c.length u u', ?_, st1_0 _ _ _, ?_⟩
  · rw [e]; exact WT.one h
  · rw [e]; exact st1_1 _ _ _
theorem Sg.num {c : Cd} {s v u : Int} (h : s = 48 ∨ (s = 97 ∧ 0 ≤ v ∧ v < 7)) (h0 : 0 ≤ u) (h1 : u ≤ 30) : Sg c (c ++ [(s, v)]) u (u + 1) := Sg.one (Or.inl ⟨h, by rw [st1_0]; exact h0, by rw [st1_0]; exact h1, by rw [st1_0, st1_1]⟩)
theorem Sg.op {c : Cd} {s v u : Int} (h : s = 43 ∨ s = 45 ∨ s = 42 ∨ s = 47 ∨ s = 37) (h0 : 0 ≤ u) (h1 : u ≤ 29) : Sg c (c ++ [(s, v)]) (u + 2) (u + 1) := Sg.one (Or.inr (Or.inl ⟨h, by rw [st1_0]; omega, by rw [st1_0]; omega, by rw [st1_0, st1_1]; omega⟩))
theorem Sg.cmp {c : Cd} {s v : Int} (h : s = 60 ∨ s = 62 ∨ s = 61) : Sg c (c ++ [(s, v)]) 2 (-1) := Sg.one (Or.inr (Or.inr (Or.inl ⟨h, st1_0 _ _ _, st1_1 _ _ _⟩)))
theorem Sg.not {c : Cd} {v : Int} : Sg c (c ++ [(33, v)]) (-1) (-1) := Sg.one (Or.inr (Or.inr (Or.inr (Or.inl ⟨rfl, st1_0 _ _ _, st1_1 _ _ _⟩))))
theorem Sg.jmp {c q : Cd} {s : Int} (hs : s = 38 ∨ s = 124) (h : Sg (c ++ [(s, 0)]) q 0 (-1)) : Sg c (q.set c.length (s, (q.length : Int))) (-1) (-1) := by
  obtain ⟨hp, K, hw, ha, hb⟩ := h
  have e : (c ++ [(s, (0 : Int))]).length = c.length + 1 := by rw [List.length_append]; rfl
  rw [e] at hw ha
  have hl : c.length + 1 ≤ q.length := by rw [← e]; exact hp.1
  have el : (q.set c.length (s, (q.length : Int))).length = q.length := List.length_set
  have j0 : jn (fun _ => -1) K c.length c.length = -1 := jn_lo _ _ (Nat.le_refl _)
  have j1 : ∀ i, c.length < i → jn (fun _ => -1) K c.length i = K i := fun i hi => if_neg (by omega)
  refine ⟨((Pre.app c [(s, 0)]).tr hp).set (Nat.le_refl _) _, jn (fun _ => -1) K c.length, ?_, j0, ?_⟩
  · intro i h1 h2
    rw [el] at h2 ⊢
    by_cases hi : i = c.length
    · subst hi
      refine ⟨s, (q.length : Int), by rw [List.getElem?_set_self (by omega)], Or.inr (Or.inr (Or.inr (Or.inr ⟨hs, j0, ?_, by omega, Int.le_refl _, ?_⟩)))⟩
      · rw [j1 _ (by omega)]; exact ha
      · rw [Int.toNat_natCast, j1 _ (by omega)]; exact hb
    · obtain ⟨s', v, hc, ho⟩ := hw i (by omega) h2
      exact ⟨s', v, by rw [List.getElem?_set_ne (by omega)]; exact hc, ho.cg (Nat.le_refl _) (fun j h _ => j1 j (by omega)) h2⟩
  · rw [el, j1 _ (by omega)]; exact hb
theorem sXp_w {T : Nat → Int} {n : Int} : ∀ (d w : Nat) (o p u : Int) (c : Cd) (q : Int × Cd), w ≤ 4 → o ≤ 6 → 0 ≤ u → u ≤ 2 * o + 4 + wx w → sXp T n d w o p c = .inl q → Sg c q.2 (kst w u) (u + 1) := by
  intro d
  induction d with
  | zero =>
    intro w o p u c q hw ho h0 h1 h
    rw [sXp] at h
    cases h
  | succ d ih =>
    intro w o p u c q hw ho h0 h1 h
    match w, hw, h1 with
    | 0, _, h1 =>
      have h1 : u ≤ 2 * o + 4 + 0 := h1
      rw [sXp_0] at h
      cases hr : sXp T n d 1 o p c with
      | inr f => rw [hr] at h; cases h
      | inl r =>
        rw [hr] at h
        exact (ih 1 o p u c r (by decide) ho h0 (by show u ≤ 2 * o + 4 + 1; omega) hr).tr (ih 3 o r.1 u r.2 q (by decide) ho h0 h1 h)
    | 1, _, h1 =>
      have h1 : u ≤ 2 * o + 4 + 1 := h1
      rw [sXp_1] at h
      cases hr : sXp T n d 2 o p c with
      | inr f => rw [hr] at h; cases h
      | inl r =>
        rw [hr] at h
        exact (ih 2 o p u c r (by decide) ho h0 (by show u ≤ 2 * o + 4 + 2; omega) hr).tr (ih 4 o r.1 u r.2 q (by decide) ho h0 h1 h)
    | 2, _, h1 =>
      have h1 : u ≤ 2 * o + 4 + 2 := h1
      rw [sXp_2] at h
      by_cases h91 : hd T n p = 91
      · rw [if_pos h91] at h
        by_cases ho6 : 6 ≤ o
        · rw [if_pos ho6] at h; cases h
        · rw [if_neg ho6] at h
          cases hr : sXp T n d 0 (o + 1) (p + 1) c with
          | inr f => rw [hr] at h; cases h
          | inl r =>
            rw [hr] at h
            dsimp only at h
            by_cases h93 : hd T n r.1 = 93
            · rw [if_pos h93] at h
              cases h
              exact ih 0 (o + 1) (p + 1) u c r (by decide) (by omega) h0 (by show u ≤ 2 * (o + 1) + 4 + 0; omega) hr
            · rw [if_neg h93] at h; cases h
      · rw [if_neg h91] at h
        by_cases hg : 48 ≤ hd T n p ∧ hd T n p ≤ 57
        · rw [if_pos hg] at h
          cases hr : sNum T n 5 p with
          | inr f => rw [hr] at h; cases h
          | inl r => rw [hr] at h; cases h; exact Sg.num (Or.inl rfl) h0 (by show u ≤ 30; omega)
        · rw [if_neg hg] at h
          by_cases hi : 0 ≤ pIdx (hd T n p)
          · rw [if_pos hi] at h
            cases h
            exact Sg.num (Or.inr ⟨rfl, hi, pIdx_lt _⟩) h0 (by show u ≤ 30; omega)
          · rw [if_neg hi] at h; cases h
    | 3, _, h1 =>
      have h1 : u ≤ 2 * o + 4 + 0 := h1
      rw [sXp_3] at h
      by_cases hc : hd T n p = 43 ∨ hd T n p = 45
      · rw [if_pos hc] at h
        cases hr : sXp T n d 1 o (p + 1) c with
        | inr f => rw [hr] at h; cases h
        | inl r =>
          rw [hr] at h
          have a := ih 1 o (p + 1) (u + 1) c r (by decide) ho (by omega) (by show u + 1 ≤ 2 * o + 4 + 1; omega) hr
          have b : Sg r.2 (r.2 ++ [(hd T n p, 0)]) (u + 1 + 1) (u + 1) := by
            rw [show u + 1 + 1 = u + 2 by omega]
            exact Sg.op (by omega) h0 (by omega)
          exact (a.tr b).tr (ih 3 o r.1 u _ q (by decide) ho h0 h1 h)
      · rw [if_neg hc] at h
        cases h
        exact Sg.rf _ _
    | 4, _, h1 =>
      have h1 : u ≤ 2 * o + 4 + 1 := h1
      rw [sXp_4] at h
      by_cases hc : hd T n p = 42 ∨ hd T n p = 47 ∨ hd T n p = 37
      · rw [if_pos hc] at h
        cases hr : sXp T n d 2 o (p + 1) c with
        | inr f => rw [hr] at h; cases h
        | inl r =>
          rw [hr] at h
          have a := ih 2 o (p + 1) (u + 1) c r (by decide) ho (by omega) (by show u + 1 ≤ 2 * o + 4 + 2; omega) hr
          have b : Sg r.2 (r.2 ++ [(hd T n p, 0)]) (u + 1 + 1) (u + 1) := by
            rw [show u + 1 + 1 = u + 2 by omega]
            exact Sg.op (by omega) h0 (by omega)
          exact (a.tr b).tr (ih 4 o r.1 u _ q (by decide) ho h0 h1 h)
      · rw [if_neg hc] at h
        cases h
        exact Sg.rf _ _
def kcd (w : Nat) : Int := match w with
  | 0 => 0
  | 1 => 0
  | 2 => 0
  | _ => -1
theorem sCd_w {T : Nat → Int} {n : Int} : ∀ (d w : Nat) (o p : Int) (c : Cd) (q : Int × Cd), w ≤ 4 → 0 ≤ o → o ≤ 6 → sCd T n d w o p c = .inl q → Sg c q.2 (kcd w) (-1) := by
  intro d
  induction d with
  | zero =>
    intro w o p c q hw h0 ho h
    rw [sCd] at h
    cases h
  | succ d ih =>
    intro w o p c q hw h0 ho h
    match w, hw with
    | 0, _ =>
      rw [sCd_0] at h
      cases hr : sCd T n d 1 o p c with
      | inr f => rw [hr] at h; cases h
      | inl r =>
        rw [hr] at h
        exact (ih 1 o p c r (by decide) h0 ho hr).tr (ih 3 o r.1 r.2 q (by decide) h0 ho h)
    | 1, _ =>
      rw [sCd_1] at h
      cases hr : sCd T n d 2 o p c with
      | inr f => rw [hr] at h; cases h
      | inl r =>
        rw [hr] at h
        exact (ih 2 o p c r (by decide) h0 ho hr).tr (ih 4 o r.1 r.2 q (by decide) h0 ho h)
    | 2, _ =>
      rw [sCd_2] at h
      by_cases h33 : hd T n p = 33
      · rw [if_pos h33] at h
        by_cases ho6 : 6 ≤ o
        · rw [if_pos ho6] at h; cases h
        · rw [if_neg ho6] at h
          cases hr : sCd T n d 2 (o + 1) (p + 1) c with
          | inr f => rw [hr] at h; cases h
          | inl r =>
            rw [hr] at h
            cases h
            exact (ih 2 (o + 1) (p + 1) c r (by decide) (by omega) (by omega) hr).tr Sg.not
      · rw [if_neg h33] at h
        by_cases h40 : hd T n p = 40
        · rw [if_pos h40] at h
          by_cases ho6 : 6 ≤ o
          · rw [if_pos ho6] at h; cases h
          · rw [if_neg ho6] at h
            cases hr : sCd T n d 0 (o + 1) (p + 1) c with
            | inr f => rw [hr] at h; cases h
            | inl r =>
              rw [hr] at h
              dsimp only at h
              by_cases h41 : hd T n r.1 = 41
              · rw [if_pos h41] at h
                cases h
                exact ih 0 (o + 1) (p + 1) c r (by decide) (by omega) (by omega) hr
              · rw [if_neg h41] at h; cases h
        · rw [if_neg h40] at h
          cases hr : sXp T n 1000 0 o p c with
          | inr f => rw [hr] at h; cases h
          | inl r =>
            rw [hr] at h
            dsimp only at h
            by_cases hs : hd T n r.1 = 60 ∨ hd T n r.1 = 62 ∨ hd T n r.1 = 61
            · rw [if_pos hs] at h
              cases hr2 : sXp T n 1000 0 o (r.1 + 1) r.2 with
              | inr f => rw [hr2] at h; cases h
              | inl t =>
                rw [hr2] at h
                cases h
                have a := sXp_w 1000 0 o p 0 c r (by decide) ho (by decide) (by show (0 : Int) ≤ 2 * o + 4 + 0; omega) hr
                have b := sXp_w 1000 0 o (r.1 + 1) 1 r.2 t (by decide) ho (by decide) (by show (1 : Int) ≤ 2 * o + 4 + 0; omega) hr2
                exact (Sg.tr a b).tr (Sg.cmp hs)
            · rw [if_neg hs] at h; cases h
    | 3, _ =>
      rw [sCd_3] at h
      by_cases hc : hd T n p = 124
      · rw [if_pos hc] at h
        cases hr : sCd T n d 1 o (p + 1) (c ++ [(124, 0)]) with
        | inr f => rw [hr] at h; cases h
        | inl r =>
          rw [hr] at h
          exact (Sg.jmp (Or.inr rfl) (ih 1 o (p + 1) _ r (by decide) h0 ho hr)).tr (ih 3 o r.1 _ q (by decide) h0 ho h)
      · rw [if_neg hc] at h
        cases h
        exact Sg.rf _ _
    | 4, _ =>
      rw [sCd_4] at h
      by_cases hc : hd T n p = 38
      · rw [if_pos hc] at h
        cases hr : sCd T n d 2 o (p + 1) (c ++ [(38, 0)]) with
        | inr f => rw [hr] at h; cases h
        | inl r =>
          rw [hr] at h
          exact (Sg.jmp (Or.inl rfl) (ih 2 o (p + 1) _ r (by decide) h0 ho hr)).tr (ih 4 o r.1 _ q (by decide) h0 ho h)
      · rw [if_neg hc] at h
        cases h
        exact Sg.rf _ _
/-- a rule's codes are in order -/
def RW (c : Cd) (R : Int × Int × Int × Int) : Prop := ∃ a h b : Nat, R.2.1 = (a : Int) ∧ R.2.2.1 = (h : Int) ∧ R.2.2.2 = (b : Int) ∧ a ≤ h ∧ h ≤ b ∧ b ≤ c.length ∧ (R.1 = 100 → ∃ K, WT c K a h ∧ K a = 0 ∧ K h = 1) ∧ ∃ K, WT c K h b ∧ K h = 0 ∧ K b = -1
theorem RW.pre {c c' : Cd} {R : Int × Int × Int × Int} (h : RW c R) (hp : Pre c c') : RW c' R := by
  obtain ⟨a, m, b, e1, e2, e3, l1, l2, l3, k1, K, k2, k3, k4⟩ := h
  refine ⟨a, m, b, e1, e2, e3, l1, l2, Nat.le_trans l3 hp.1, fun q => ?_, K, k2.pre hp, k3, k4⟩
  obtain ⟨K, k5, k6⟩ := k1 q
  exact ⟨K, k5.pre hp, k6⟩
theorem sRu_w {T : Nat → Int} {n i p : Int} {c : Cd} {u : Int × Int × Int × Cd} (h : sRu T n i p c = .inl u) : Pre c u.2.2.2 ∧ RW u.2.2.2 (u.1, (c.length : Int), u.2.1, (u.2.2.2.length : Int)) := by
  unfold sRu at h
  by_cases hk : hd T n p = 100 ∨ hd T n p = 120
  · rw [if_pos hk] at h
    by_cases h16 : 16 ≤ i
    · rw [if_pos h16] at h; cases h
    · rw [if_neg h16] at h
      have fin : ∀ r : Int × Cd, Pre c r.2 → (hd T n p = 100 → ∃ K, WT r.2 K c.length r.2.length ∧ K c.length = 0 ∧ K r.2.length = 1) → (match sCo T n r.1 r.2 with
          | .inr f => (.inr f : (Int × Int × Int × Cd) ⊕ Int)
          | .inl t => .inl (hd T n p, (r.2.length : Int), t.1, t.2)) = .inl u → Pre c u.2.2.2 ∧ RW u.2.2.2 (u.1, (c.length : Int), u.2.1, (u.2.2.2.length : Int)) := fun r hp hE h => by
        cases hr : sCo T n r.1 r.2 with
        | inr f => rw [hr] at h; cases h
        | inl t =>
          rw [hr] at h
          cases h
          dsimp only
          have hs : Sg r.2 t.2 0 (-1) := by
            unfold sCo at hr
            by_cases h40 : hd T n r.1 = 40
            · rw [if_pos h40] at hr
              cases hr2 : sCd T n 1000 0 1 (r.1 + 1) r.2 with
              | inr f => rw [hr2] at hr; cases hr
              | inl t2 =>
                rw [hr2] at hr
                dsimp only at hr
                by_cases h41 : hd T n t2.1 = 41
                · rw [if_pos h41] at hr
                  cases hr
                  exact sCd_w 1000 0 1 (r.1 + 1) r.2 t2 (by decide) (by decide) (by decide) hr2
                · rw [if_neg h41] at hr; cases hr
            · rw [if_neg h40] at hr; cases hr
          obtain ⟨hp2, K, w1, w2, w3⟩ := hs
          refine ⟨hp.tr hp2, c.length, r.2.length, t.2.length, rfl, rfl, rfl, hp.1, hp2.1, Nat.le_refl _, fun q => ?_, K, w1, w2, w3⟩
          obtain ⟨K, k1, k2, k3⟩ := hE q
          exact ⟨K, k1.pre hp2, k2, k3⟩
      by_cases h100 : hd T n p = 100
      · rw [if_pos h100] at h
        cases hr : sXp T n 1000 0 0 (p + 1) c with
        | inr f => rw [hr] at h; cases h
        | inl r =>
          rw [hr] at h
          obtain ⟨hp, K, k1, k2, k3⟩ := sXp_w 1000 0 0 (p + 1) 0 c r (by decide) (by decide) (by decide) (by decide) hr
          exact fin r hp (fun _ => ⟨K, k1, k2, k3⟩) h
      · rw [if_neg h100] at h
        exact fin (p + 1, c) (Pre.rf _) (fun q => absurd q h100) h
  · rw [if_neg hk] at h; cases h
/-- the rules: letter, where its codes begin, where its condition's begin, where they end -/
abbrev Ru : Type := Int × Int × Int × Int
def RLs (σ τ : pS) (i : Nat) (R : Nat → Ru) : Prop := ∀ j, j < i → (σ 58 j = (R j).1 ∧ σ 59 j = (R j).2.1 ∧ σ 60 j = (R j).2.2.1 ∧ σ 59 (j + 1) = (R j).2.2.2) ∧ τ 99 j = (R j).1 ∧ τ 100 j = (R j).2.1 ∧ τ 101 j = (R j).2.2.1 ∧ τ 102 j = (R j).2.2.2
def PLw (k x : Nat) : Prop := PL k x ∨ k = 58 ∨ k = 59 ∨ k = 60 ∨ (k = 57 ∧ x = 7)
def QLw (k x : Nat) : Prop := QL k x ∨ k = 99 ∨ k = 100 ∨ k = 101 ∨ k = 102 ∨ (k = 84 ∧ (x = 26 ∨ x = 18))
def mL (fu : Nat) (τ : pS) : Option (Int × pS) := (f_M_readsRule_84 τ).bind fun q => if q.1 = 0 then f_M_law_84_p31 fu 0 q.2 else f_M_law_84_p31 fu 1 q.2
theorem ml_bad (fu : Nat) (τ : pS) : f_M_law_84_p31 (fu + 1) 0 τ = some (τ 84 21, pU τ 84 18 0) := by
  show (if (0 : Int) = 0 then _ else _) = _
  rw [if_pos rfl]
  unfold f_M_law_84_p71
  rw [if_pos rfl]
theorem RLs.mv {σ σ' τ τ' : pS} {i : Nat} {R : Nat → Ru} {c : Cd} {u : Ru} (h : RLs σ τ i R) (hc : ∀ j, j + 1 = i → (R j).2.2.2 = (c.length : Int)) (h1 : FR (PRu i) σ σ') (h2 : FR (QRu i) τ τ') (e1 : σ' 58 i = u.1) (e2 : σ' 59 i = (c.length : Int)) (e3 : σ' 60 i = u.2.2.1) (e4 : σ' 59 (i + 1) = u.2.2.2) (eu : u.2.1 = (c.length : Int)) (m1 : τ' 99 i = u.1) (m2 : τ' 100 i = (c.length : Int)) (m3 : τ' 101 i = u.2.2.1) (m4 : τ' 102 i = u.2.2.2) : RLs σ' τ' (i + 1) (fun j => if j = i then u else R j) := by
  intro j hj
  by_cases hji : j = i
  · rw [hji]
    simp only [if_true]
    exact ⟨⟨e1, e2.trans eu.symm, e3, e4⟩, m1, m2.trans eu.symm, m3, m4⟩
  · simp only [if_neg hji]
    obtain ⟨⟨a1, a2, a3, a4⟩, b1, b2, b3, b4⟩ := h j (by omega)
    refine ⟨⟨(h1.get (by unfold PRu PL; omega)).trans a1, (h1.get (by unfold PRu PL; omega)).trans a2, (h1.get (by unfold PRu PL; omega)).trans a3, ?_⟩, (h2.get (by unfold QRu QL; omega)).trans b1, (h2.get (by unfold QRu QL; omega)).trans b2, (h2.get (by unfold QRu QL; omega)).trans b3, (h2.get (by unfold QRu QL; omega)).trans b4⟩
    by_cases hj1 : j + 1 = i
    · rw [hj1, e2, hc j hj1]
    · exact (h1.get (by unfold PRu PL; omega)).trans a4
theorem RLs.st {σ σ' τ τ' : pS} {i : Nat} {R : Nat → Ru} (h : RLs σ τ i R) (h1 : ∀ k x, 58 ≤ k → k ≤ 60 → σ' k x = σ k x) (h2 : ∀ k x, 99 ≤ k → k ≤ 102 → τ' k x = τ k x) : RLs σ' τ' i R := by
  intro j hj
  have := h j hj
  rw [h1 58 _ (by decide) (by decide), h1 59 _ (by decide) (by decide), h1 60 _ (by decide) (by decide), h1 59 _ (by decide) (by decide), h2 99 _ (by decide) (by decide), h2 100 _ (by decide) (by decide), h2 101 _ (by decide) (by decide), h2 102 _ (by decide) (by decide)]
  exact this
theorem ML.mo {τ τ' : pS} {c : Cd} (h : ML τ c) (e : MO τ τ') : ML τ' c := ⟨(e.2 24 (by decide) (by decide) (by decide)).trans h.1, fun i q hq => by rw [e.1 97 i (by decide)]; exact h.2 i q hq⟩
/-- the rules of both, one behind the other -/
theorem lw_ls {T : Nat → Int} {n : Int} (hT : TB T n) : ∀ (d i fu1 fu2 : Nat) (p : Int) (c : Cd) (σ τ : pS) (R : Nat → Ru), i + d = 16 → d + 1 < fu1 → d + 2 < fu2 → TP σ T n p → CL σ c → TM τ T n p → ML τ c → τ 84 26 = (i : Int) → (c.length : Int) ≤ p → RLs σ τ i R → (∀ j, j + 1 = i → (R j).2.2.2 = (c.length : Int)) → (∀ j, j < i → RW c (R j)) →
    (∃ f σ' τ', f < 0 ∧ f_Law_readFrom_57_1_p7 fu1 (i : Int) σ = some (f, σ') ∧ mL fu2 τ = some (f, τ') ∧ FR PLw σ σ' ∧ FR QLw τ τ' ∧ τ' 84 18 = 0) ∨
    (∃ (m : Nat) (σe τe : pS) (c' : Cd) (R' : Nat → Ru), 0 < m ∧ m ≤ 16 ∧ f_Law_readFrom_57_1_p7 fu1 (i : Int) σ = some ((m : Int), pU σe 57 7 (m : Int)) ∧ mL fu2 τ = f_M_law_84_p71 1 τe ∧ τe 84 26 = (m : Int) ∧ CL σe c' ∧ ML τe c' ∧ c'.length ≤ 240 ∧ RLs σe τe m R' ∧ FR PLw σ σe ∧ FR QLw τ τe ∧ ∀ j, j < m → RW c' (R' j)) := by
  intro d
  induction d with
  | zero =>
    intro i fu1 fu2 p c σ τ R hdd h1 h2 hP hC hM hL h26 hl hR hRc hW
    obtain ⟨fu1, rfl⟩ : ∃ k, fu1 = k + 1 := ⟨fu1 - 1, by omega⟩
    obtain ⟨fu2, rfl⟩ : ∃ k, fu2 = k + 1 := ⟨fu2 - 1, by omega⟩
    have ha := c_rule hT (i := i) (by omega) hP hC hl
    have hb := m_rule (i := i) (by omega) ⟨hM, hL⟩ h26 hl
    have hpb := hP.2.2.1
    cases hs : sRu T n (i : Int) p c with
    | inl u =>
      rw [hs] at ha
      obtain ⟨_, _, _, _, _, _, _, _, hi⟩ := ha
      omega
    | inr f =>
      rw [hs] at ha hb
      obtain ⟨σ', a1, a2, a3⟩ := ha
      obtain ⟨τ', b1, b2, b3⟩ := hb
      refine Or.inl ⟨f, σ', pU τ' 84 18 0, sRu_b (by omega) (by omega) (by omega) hs, ?_, ?_, a3.mono (fun k x h => by unfold PRu PL at h; unfold PLw PL; omega), (b3.mono (fun k x h => by unfold QRu QL at h; unfold QLw QL; omega)).tr (FR.u (by unfold QLw; omega)), pU_s _ _ _ _⟩
      · show (if (16 : Int) < (i : Int) then _ else _) = _
        rw [if_neg (by omega), a1, Option.bind_some]
        dsimp only
        rw [if_pos rfl, c_flt, Option.bind_some, a2]
      · unfold mL
        rw [b1, Option.bind_some]
        dsimp only
        rw [if_pos rfl, ml_bad, b2]
  | succ d ih =>
    intro i fu1 fu2 p c σ τ R hdd h1 h2 hP hC hM hL h26 hl hR hRc hW
    obtain ⟨fu1, rfl⟩ : ∃ k, fu1 = k + 1 := ⟨fu1 - 1, by omega⟩
    obtain ⟨fu2, rfl⟩ : ∃ k, fu2 = k + 1 := ⟨fu2 - 1, by omega⟩
    have ha := c_rule hT (i := i) (by omega) hP hC hl
    have hb := m_rule (i := i) (by omega) ⟨hM, hL⟩ h26 hl
    have hpb := hP.2.2.1
    have pM : ∀ k x, PRu i k x → PLw k x := fun k x h => by unfold PRu PL at h; unfold PLw PL; omega
    have qM : ∀ k x, QRu i k x → QLw k x := fun k x h => by unfold QRu QL at h; unfold QLw QL; omega
    cases hs : sRu T n (i : Int) p c with
    | inr f =>
      rw [hs] at ha hb
      obtain ⟨σ', a1, a2, a3⟩ := ha
      obtain ⟨τ', b1, b2, b3⟩ := hb
      refine Or.inl ⟨f, σ', pU τ' 84 18 0, sRu_b (by omega) (by omega) (by omega) hs, ?_, ?_, a3.mono pM, (b3.mono qM).tr (FR.u (by unfold QLw; omega)), pU_s _ _ _ _⟩
      · show (if (16 : Int) < (i : Int) then _ else _) = _
        rw [if_neg (by omega), a1, Option.bind_some]
        dsimp only
        rw [if_pos rfl, c_flt, Option.bind_some, a2]
      · unfold mL
        rw [b1, Option.bind_some]
        dsimp only
        rw [if_pos rfl, ml_bad, b2]
    | inl u =>
      rw [hs] at ha hb
      obtain ⟨σ1, a1, a2, a3, ⟨a4, a5, a6, a7⟩, a8, a9, a10, a11⟩ := ha
      obtain ⟨τ1, K, o, b1, b2, ⟨b4, b5, b6, b7⟩, b8, b9, -⟩ := hb
      have hM1 := b2.1
      have hL1 := b2.2.1
      have hp1 := a2.2.2.1
      have hW1 : ∀ j, j < i + 1 → RW u.2.2.2 ((fun j => if j = i then (u.1, (c.length : Int), u.2.1, (u.2.2.2.length : Int)) else R j : Nat → Ru) j) := fun j hj => by
        obtain ⟨w1, w2⟩ := sRu_w hs
        by_cases hji : j = i
        · show RW u.2.2.2 (if j = i then _ else _)
          rw [if_pos hji]
          exact w2
        · show RW u.2.2.2 (if j = i then _ else _)
          rw [if_neg hji]
          exact (hW j (by omega)).pre w1
      have hR1 : RLs σ1 τ1 (i + 1) (fun j => if j = i then (u.1, (c.length : Int), u.2.1, (u.2.2.2.length : Int)) else R j) := hR.mv (c := c) (u := (u.1, (c.length : Int), u.2.1, (u.2.2.2.length : Int))) hRc a8 b9 a4 a5 a6 a7 rfl b4 b5 b6 b7
      have eC : f_Law_readFrom_57_1_p7 (fu1 + 1) (i : Int) σ = ((f_Tape_ended_1 σ1).bind fun q5 => (if q5.1 = 0 then ((f_Tape_accept_1 59 q5.2).bind fun q7 => (if q7.1 = 0 then ((f_Tape_fault_1 q7.2).bind fun q9 => (some (q9.1, q9.2))) else (f_Law_readFrom_57_1_p7 fu1 (pw ((i : Int) + 1)) q7.2))) else (some (pw ((i : Int) + 1), pU q5.2 57 7 (pw ((i : Int) + 1)))))) := by
        show (if (16 : Int) < (i : Int) then _ else _) = _
        rw [if_neg (by omega), a1, Option.bind_some]
        dsimp only
        rw [if_neg (by decide)]
      have eM : mL (fu2 + 1) τ = (if (τ1 84 20) ≤ (τ1 84 19) then (f_M_law_84_p71 1 τ1) else ((f_M_takes_84 59 τ1).bind fun q21 => (if q21.1 = 0 then (f_M_law_84_p31 fu2 0 q21.2) else mL fu2 q21.2))) := by
        unfold mL
        rw [b1, Option.bind_some]
        dsimp only
        rw [if_neg (by decide)]
        show (if (1 : Int) = 0 then _ else _) = _
        rw [if_neg (by decide)]
      rw [eC, eM, c_end a2, Option.bind_some, hM1.1, hM1.2.1, pw_id (z := (i : Int) + 1) (by omega) (by omega)]
      by_cases hend : u.2.2.1 < n
      · rw [if_pos hend, if_neg (show ¬ n ≤ u.2.2.1 by omega)]
        dsimp only
        rw [if_pos rfl]
        by_cases h59 : hd T n u.2.2.1 = 59
        · obtain ⟨σ2, x1, x2, x3⟩ := c_acc1 a2 h59 (by decide)
          obtain ⟨τ2, y1, y2, y3⟩ := m_tak1 hM1 h59 (by decide)
          rw [x1, y1, Option.bind_some, Option.bind_some]
          dsimp only
          rw [if_neg (by decide), if_neg (by decide)]
          have hR2 : RLs σ2 τ2 (i + 1) (fun j => if j = i then (u.1, (c.length : Int), u.2.1, (u.2.2.2.length : Int)) else R j) := hR1.st (fun k x h1 h2 => x3 k x (by omega)) (fun k x h1 h2 => y3.1 k x (by omega))
          have h := ih (i + 1) fu1 fu2 (u.2.2.1 + 1) u.2.2.2 σ2 τ2 _ (by omega) (by omega) (by omega) x2 (a3.mv x3) y2 (hL1.mo y3) ((y3.2 26 (by decide) (by decide) (by decide)).trans (by rw [b8]; omega)) (by omega) hR2 (fun j hj => by
            rw [if_pos (show j = i by omega)]) hW1
          have hP2 : FR PLw σ σ2 := (a8.mono pM).tr (x3.fr (fun x => Or.inl (Or.inl rfl)))
          have hQ2 : FR QLw τ τ2 := (b9.mono qM).tr (y3.fr (Or.inl (Or.inl (by decide))) (Or.inl (Or.inl (by decide))) (Or.inl (Or.inl (by decide))))
          rw [show (i : Int) + 1 = ((i + 1 : Nat) : Int) by omega]
          rcases h with ⟨f, σ', τ', q1, q2, q3, q4, q5, q6⟩ | ⟨m, σe, τe, c', R', q1, q2, q3, q4, q5, q6, q7, q8, q9, q10, q11, q12⟩
          · exact Or.inl ⟨f, σ', τ', q1, q2, q3, hP2.tr q4, hQ2.tr q5, q6⟩
          · exact Or.inr ⟨m, σe, τe, c', R', q1, q2, q3, q4, q5, q6, q7, q8, q9, hP2.tr q10, hQ2.tr q11, q12⟩
        · obtain ⟨σ2, x1, x2, x3⟩ := c_acc0 a2 h59
          obtain ⟨τ2, y1, y2, y3⟩ := m_tak0 hM1 h59
          rw [x1, y1, Option.bind_some, Option.bind_some]
          dsimp only
          rw [if_pos rfl, if_pos rfl, c_flt, Option.bind_some]
          obtain ⟨fu2, rfl⟩ : ∃ k, fu2 = k + 1 := ⟨fu2 - 1, by omega⟩
          rw [ml_bad, x2, y2]
          exact Or.inl ⟨_, σ2, _, by omega, rfl, rfl, (a8.mono pM).tr (x3.fr (fun x => Or.inl (Or.inl rfl))), ((b9.mono qM).tr (y3.fr (Or.inl (Or.inl (by decide))) (Or.inl (Or.inl (by decide))) (Or.inl (Or.inl (by decide))))).tr (FR.u (by unfold QLw; omega)), pU_s _ _ _ _⟩
      · rw [if_neg hend, if_pos (show n ≤ u.2.2.1 by omega)]
        dsimp only
        rw [if_neg (by decide), show (i : Int) + 1 = ((i + 1 : Nat) : Int) by omega]
        exact Or.inr ⟨i + 1, σ1, τ1, u.2.2.2, _, by omega, by omega, rfl, rfl, by rw [b8]; omega, a3, hL1, by omega, hR1, a8.mono pM, b9.mono qM, hW1⟩
def CQ (τ : pS) (j : Nat) : Prop := τ 104 j = τ 99 j ∧ τ 105 j = τ 100 j ∧ τ 106 j = τ 101 j ∧ τ 107 j = τ 102 j
def Q4 (k _x : Nat) : Prop := 104 ≤ k ∧ k ≤ 107
theorem m_123 {m : Nat} (hm : m ≤ 16) : ∀ (d k fu : Nat) (τ : pS), k + d = m → d < fu → τ 84 26 = (m : Int) → (∀ j, j < k → CQ τ j) → ∃ τ', f_M_law_84_p123 fu (k : Int) τ = some ((m : Int), τ') ∧ (∀ j, j < m → CQ τ' j) ∧ FR Q4 τ τ'
  | 0, k, fu, τ, hk, hf, h26, hc => by
    obtain ⟨n, rfl⟩ : ∃ n, fu = n + 1 := ⟨fu - 1, by omega⟩
    refine ⟨τ, ?_, fun j hj => hc j (by omega), FR.rf _ _⟩
    show (if τ 84 26 ≤ (k : Int) then _ else _) = _
    rw [if_pos (by omega), h26]
  | d + 1, k, fu, τ, hk, hf, h26, hc => by
    obtain ⟨n, rfl⟩ : ∃ n, fu = n + 1 := ⟨fu - 1, by omega⟩
    have g : (0 : Int) ≤ (k : Int) ∧ (k : Int) < 16 := by omega
    generalize hτ1 : pU (pU (pU (pU τ 104 k (τ 99 k)) 105 k (τ 100 k)) 106 k (τ 101 k)) 107 k (τ 102 k) = τ1
    have f1 : FR Q4 τ τ1 := by
      rw [← hτ1]
      exact (((FR.u (by unfold Q4; omega)).tr (FR.u (by unfold Q4; omega))).tr (FR.u (by unfold Q4; omega))).tr (FR.u (by unfold Q4; omega))
    have hj : ∀ j, j < k + 1 → CQ τ1 j := fun j hj => by
      rw [← hτ1]
      unfold CQ
      by_cases hjk : j = k
      · subst hjk
        refine ⟨?_, ?_, ?_, ?_⟩ <;> simp [pU]
      · have := hc j (by omega)
        unfold CQ at this
        refine ⟨?_, ?_, ?_, ?_⟩ <;> simp [pU, hjk, this]
    obtain ⟨τ', q1, q2, q3⟩ := m_123 hm d (k + 1) n τ1 (by omega) (by omega) ((f1.get (by unfold Q4; omega)).trans h26) hj
    refine ⟨τ', ?_, q2, f1.tr q3⟩
    show (if τ 84 26 ≤ (k : Int) then _ else _) = _
    rw [if_neg (by omega), if_pos g, if_pos g, if_pos g, if_pos g, if_pos g, if_pos g, if_pos g, if_pos g, Int.toNat_natCast, hτ1, pw_id (by omega) (by omega), show (k : Int) + 1 = ((k + 1 : Nat) : Int) by omega]
    exact q1
def Q3 (k _x : Nat) : Prop := k = 103
theorem m_95 {L : Nat} (hL : L ≤ 260) : ∀ (d k fu : Nat) (τ : pS), k + d = L → d < fu → τ 84 24 = (L : Int) → (∀ j, j < k → τ 103 j = τ 97 j) → ∃ τ', f_M_law_84_p95 fu (k : Int) τ = f_M_law_84_p123 4096 0 τ' ∧ (∀ j, j < L → τ' 103 j = τ' 97 j) ∧ FR Q3 τ τ'
  | 0, k, fu, τ, hk, hf, h24, hc => by
    obtain ⟨n, rfl⟩ : ∃ n, fu = n + 1 := ⟨fu - 1, by omega⟩
    refine ⟨τ, ?_, fun j hj => hc j (by omega), FR.rf _ _⟩
    show (if τ 84 24 ≤ (k : Int) then _ else _) = _
    rw [if_pos (by omega)]
  | d + 1, k, fu, τ, hk, hf, h24, hc => by
    obtain ⟨n, rfl⟩ : ∃ n, fu = n + 1 := ⟨fu - 1, by omega⟩
    have g : (0 : Int) ≤ (k : Int) ∧ (k : Int) < 260 := by omega
    have f1 : FR Q3 τ (pU τ 103 k (τ 97 k)) := FR.u (by unfold Q3; omega)
    obtain ⟨τ', q1, q2, q3⟩ := m_95 hL d (k + 1) n (pU τ 103 k (τ 97 k)) (by omega) (by omega) ((f1.get (by unfold Q3; omega)).trans h24) (fun j hj => by
      rw [f1.get (k := 97) (by unfold Q3; omega)]
      by_cases hjk : j = k
      · rw [hjk, pU_s]
      · rw [pU_i _ _ _ _ hjk]
        exact hc j (by omega))
    refine ⟨τ', ?_, q2, f1.tr q3⟩
    show (if τ 84 24 ≤ (k : Int) then _ else _) = _
    rw [if_neg (by omega), if_pos g, if_pos g, Int.toNat_natCast, pw_id (by omega) (by omega), show (k : Int) + 1 = ((k + 1 : Nat) : Int) by omega]
    exact q1
/-- the two laws are alike -/
def LR (σ τ : pS) : Prop := ∃ (m : Nat) (c : Cd) (R : Nat → Ru), m ≤ 16 ∧ c.length ≤ 240 ∧ σ 16 7 = (m : Int) ∧ τ 84 27 = (m : Int) ∧ (∀ (i : Nat) (q : Int × Int), c[i]? = some q → σ 20 i = q.1 ∧ σ 21 i = q.2 ∧ τ 103 i = 1048576 * mop q.1 + q.2 ∧ 0 ≤ q.2 ∧ q.2 < 1048576) ∧ ∀ j, j < m → (σ 17 j = (R j).1 ∧ σ 18 j = (R j).2.1 ∧ σ 19 j = (R j).2.2.1 ∧ σ 18 (j + 1) = (R j).2.2.2) ∧ τ 104 j = (R j).1 ∧ τ 105 j = (R j).2.1 ∧ τ 106 j = (R j).2.2.1 ∧ τ 107 j = (R j).2.2.2 ∧ RW c (R j)
theorem LR.mv {σ σ' τ τ' : pS} (h : LR σ τ) (h1 : σ' 16 7 = σ 16 7) (h2 : ∀ k x, 17 ≤ k → k ≤ 21 → σ' k x = σ k x) (h3 : τ' 84 27 = τ 84 27) (h4 : ∀ k x, 103 ≤ k → k ≤ 107 → τ' k x = τ k x) : LR σ' τ' := by
  obtain ⟨m, c, R, a1, a2, a3, a4, a5, a6⟩ := h
  refine ⟨m, c, R, a1, a2, h1.trans a3, h3.trans a4, fun i q hq => ?_, fun j hj => ?_⟩
  · rw [h2 20 _ (by decide) (by decide), h2 21 _ (by decide) (by decide), h4 103 _ (by decide) (by decide)]
    exact a5 i q hq
  · rw [h2 17 _ (by decide) (by decide), h2 18 _ (by decide) (by decide), h2 19 _ (by decide) (by decide), h2 18 _ (by decide) (by decide), h4 104 _ (by decide) (by decide), h4 105 _ (by decide) (by decide), h4 106 _ (by decide) (by decide), h4 107 _ (by decide) (by decide)]
    exact a6 j hj
def cpL (σ : pS) : pS := pU (pKp (pKp (pKp (pKp (pKp σ 58 17 16) 59 18 17) 60 19 16) 61 20 240) 62 21 240) 16 7 (σ 57 7)
def PLx (k _x : Nat) : Prop := k = 1 ∨ (16 ≤ k ∧ k ≤ 21) ∨ (57 ≤ k ∧ k ≤ 62)
def QLx (k x : Nat) : Prop := (k = 84 ∧ 18 ≤ x ∧ x ≤ 27) ∨ (97 ≤ k ∧ k ≤ 107)
theorem cpL_fr (σ : pS) : FR PLx σ (cpL σ) := by
  intro k x
  by_cases h : 16 ≤ k ∧ k ≤ 21
  · exact Or.inl (Or.inr (Or.inl h))
  · right
    unfold cpL pU pKp
    rw [if_neg (by omega), if_neg (by omega), if_neg (by omega), if_neg (by omega), if_neg (by omega), if_neg (by omega)]
/-- law: tapes alike and laws alike stay so, the answers are equal -/
theorem law_ls {σ τ : pS} {a : Int} (hTR : TR σ τ) : ∃ v σ' τ', f_X_law_0 a σ = some (v, σ') ∧ f_M_law_84 a τ = some (v, τ') ∧ TR σ' τ' ∧ (LR σ τ → LR σ' τ') ∧ FR PLx σ σ' ∧ FR QLx τ τ' := by
  have hTR' := hTR
  obtain ⟨t1, t2, t3⟩ := hTR
  by_cases hb : (1 ≤ a ∧ a ≤ 240) ∧ a ≤ σ 1 1
  · obtain ⟨hb1, hb2⟩ := hb
    have hTB : TB (fun i => σ 2 i) a := fun i hi => (t3 i (by omega)).2
    generalize hσ0 : pU (pU (pU (pU σ 1 2 a) 1 3 0) 1 4 0) 57 8 0 = σ0
    generalize hτ0 : pU (pU (pU (pU τ 84 19 0) 84 20 a) 84 24 0) 84 26 0 = τ0
    have hP0 : TP σ0 (fun i => σ 2 i) a 0 := by
      rw [← hσ0]
      refine ⟨by simp [pU], by simp [pU], ⟨by omega, by omega, by omega⟩, fun i hi => by simp [pU]⟩
    have hC0 : CL σ0 [] := by
      rw [← hσ0]
      exact ⟨by simp [pU], fun i q hq => by simp at hq⟩
    have hM0 : TM τ0 (fun i => σ 2 i) a 0 := by
      rw [← hτ0]
      refine ⟨by simp [pU], by simp [pU], ⟨by omega, by omega, by omega⟩, fun i hi => ?_⟩
      rw [show pU (pU (pU (pU τ 84 19 0) 84 20 a) 84 24 0) 84 26 0 96 i = τ 96 i by simp [pU]]
      exact (t3 i (by omega)).1.symm
    have hL0 : ML τ0 [] := by
      rw [← hτ0]
      exact ⟨by simp [pU], fun i q hq => by simp at hq⟩
    have h26 : τ0 84 26 = ((0 : Nat) : Int) := by rw [← hτ0]; simp [pU]
    have n0 : ∀ k x, k ≠ 1 → k ≠ 57 → σ0 k x = σ k x := fun k x h h2 => by rw [← hσ0]; exact (pU_c _ _ _ _ h2).trans ((pU_c _ _ _ _ h).trans ((pU_c _ _ _ _ h).trans (pU_c _ _ _ _ h)))
    have m0 : ∀ k x, ¬ (k = 84 ∧ (x = 19 ∨ x = 20 ∨ x = 24 ∨ x = 26)) → τ0 k x = τ k x := fun k x h => by
      rw [← hτ0]
      unfold pU
      rw [if_neg (by omega), if_neg (by omega), if_neg (by omega), if_neg (by omega)]
    have eX : f_X_law_0 a σ = (f_Law_readFrom_57_1_p7 4096 0 σ0).bind fun q5 => if q5.1 < 0 then f_X_law_0_p63 q5.1 q5.2 else (f_Law_copyFrom_16_57 q5.2).bind fun q8 => f_X_law_0_p63 q5.1 q8.2 := by
      unfold f_X_law_0
      rw [if_neg (by omega), if_neg (by omega), if_pos hb2]
      unfold f_Tape_beginText_1
      rw [Option.bind_some]
      dsimp only
      unfold f_Law_readFrom_57_1
      rw [show pMin a (σ 1 1) = a by unfold pMin; rw [if_neg (by omega)], hσ0]
    have eM : f_M_law_84 a τ = mL 4096 τ0 := by
      unfold f_M_law_84
      rw [m_in, if_pos hb1, Option.bind_some]
      dsimp only
      rw [if_neg (by decide), if_pos (by omega)]
      unfold f_M_beginsText_84
      rw [Option.bind_some]
      dsimp only
      rw [hτ0]
      unfold mL
      have h := m_rule (i := 0) (by omega) ⟨hM0, hL0⟩ h26 (by simp)
      cases hs : sRu (fun i => σ 2 i) a ((0 : Nat) : Int) 0 [] with
      | inr f =>
        rw [hs] at h
        obtain ⟨τ', b1, -⟩ := h
        rw [b1, Option.bind_some, Option.bind_some]
        rfl
      | inl q =>
        rw [hs] at h
        obtain ⟨τ', K, o, b1, -⟩ := h
        rw [b1, Option.bind_some, Option.bind_some]
        rfl
    have x0 : FR PLx σ σ0 := by
      rw [← hσ0]
      exact (((FR.u (Or.inl rfl)).tr (FR.u (Or.inl rfl))).tr (FR.u (Or.inl rfl))).tr (FR.u (by unfold PLx; omega))
    have y0 : FR QLx τ τ0 := by
      rw [← hτ0]
      exact (((FR.u (by unfold QLx; omega)).tr (FR.u (by unfold QLx; omega))).tr (FR.u (by unfold QLx; omega))).tr (FR.u (by unfold QLx; omega))
    have pW : ∀ k x, PLw k x → PLx k x := fun k x h => by unfold PLw PL at h; unfold PLx; omega
    have qW : ∀ k x, QLw k x → QLx k x := fun k x h => by unfold QLw QL at h; unfold QLx; omega
    rw [eX, eM]
    rcases lw_ls hTB 16 0 4096 4096 0 [] σ0 τ0 (fun _ => (0, 0, 0, 0)) (by omega) (by omega) (by omega) hP0 hC0 hM0 hL0 h26 (by simp) (fun j hj => absurd hj (by omega)) (fun j hj => by omega) (fun j hj => absurd hj (Nat.not_lt_zero _)) with ⟨f, σ', τ', k1, k2, k3, k4, k5, k6⟩ | ⟨m, σe, τe, c, R, k0, k1, k2, k3, k4, k5, k6, k7, k8, k9, k10, k11⟩
    · rw [show ((0 : Nat) : Int) = 0 from rfl] at k2
      rw [k2, k3, Option.bind_some]
      dsimp only
      rw [if_pos k1]
      refine ⟨f, pU σ' 1 1 0, τ', rfl, rfl, ⟨by rw [pU_s, k6], by rw [pU_s]; omega, fun i hi => by rw [pU_s] at hi; omega⟩, fun hLR => ?_, (x0.tr (k4.mono pW)).tr (FR.u (Or.inl rfl)), y0.tr (k5.mono qW)⟩
      exact hLR.mv ((pU_c _ _ _ _ (by decide)).trans ((k4.get (by unfold PLw PL; omega)).trans (n0 _ _ (by decide) (by decide)))) (fun k x h1 h2 => (pU_c _ _ _ _ (by omega)).trans ((k4.get (by unfold PLw PL; omega)).trans (n0 _ _ (by omega) (by omega)))) ((k5.get (by unfold QLw QL; omega)).trans (m0 _ _ (by omega))) (fun k x h1 h2 => (k5.get (by unfold QLw QL; omega)).trans (m0 _ _ (by omega)))
    · rw [show ((0 : Nat) : Int) = 0 from rfl] at k2
      rw [k2, k3, Option.bind_some]
      dsimp only
      rw [if_neg (by omega)]
      unfold f_M_law_84_p71
      rw [if_neg (by decide)]
      generalize hτ1 : pU (pU τe 84 18 0) 84 27 (τe 84 26) = τ1
      have d1 : ∀ k x, ¬ (k = 84 ∧ (x = 18 ∨ x = 27)) → τ1 k x = τe k x := fun k x h => by
        rw [← hτ1]
        unfold pU
        rw [if_neg (by omega), if_neg (by omega)]
      have d27 : τ1 84 27 = (m : Int) := by rw [← hτ1, pU_s]; exact k4
      have d18 : τ1 84 18 = 0 := by rw [← hτ1, pU_i _ _ _ _ (by decide), pU_s]
      obtain ⟨τ2, p1, p2, p3⟩ := m_95 (L := c.length) (by omega) c.length 0 4096 τ1 (by omega) (by omega) ((d1 _ _ (by omega)).trans k6.1) (fun j hj => absurd hj (Nat.not_lt_zero _))
      obtain ⟨τ3, r1, r2, r3⟩ := m_123 (m := m) (by omega) m 0 4096 τ2 (by omega) (by omega) ((p3.get (by unfold Q3; omega)).trans ((d1 _ _ (by omega)).trans k4)) (fun j hj => absurd hj (Nat.not_lt_zero _))
      rw [show ((0 : Nat) : Int) = 0 from rfl] at p1 r1
      rw [p1, r1]
      have g84 : ∀ x, τ3 84 x = τ1 84 x := fun x => (r3.get (by unfold Q4; omega)).trans (p3.get (by unfold Q3; omega))
      have g2 : ∀ k x, k < 103 → τ3 k x = τ1 k x := fun k x h => (r3.get (by unfold Q4; omega)).trans (p3.get (by unfold Q3; omega))
      refine ⟨(m : Int), pU (cpL (pU σe 57 7 (m : Int))) 1 1 0, τ3, rfl, rfl, ⟨by rw [pU_s, g84, d18], by rw [pU_s]; omega, fun i hi => by rw [pU_s] at hi; omega⟩, fun hLR => ?_, ((x0.tr (k9.mono pW)).tr (FR.u (by unfold PLx; omega))).tr ((cpL_fr _).tr (FR.u (Or.inl rfl))), ?_⟩
      · refine ⟨m, c, R, by omega, k7, ?_, ?_, fun i q hq => ?_, fun j hj => ?_⟩
        · simp [pU, cpL]
        · rw [g84, d27]
        · have hi : i < c.length := (List.getElem?_eq_some_iff.mp hq).1
          have e1 := k5.2 i q hq
          have e2 := k6.2 i q hq
          have e3 : τ3 103 i = τe 97 i := by
            rw [r3.get (by unfold Q4; omega), p2 i hi, p3.get (by unfold Q3; omega), d1 _ _ (by omega)]
          have h240 : i < 240 := by omega
          refine ⟨?_, ?_, e3.trans e2.1, e2.2⟩
          · simp [pU, pKp, cpL, h240]
            exact e1.1
          · simp [pU, pKp, cpL, h240]
            exact e1.2
        · obtain ⟨⟨e1, e2, e3, e4⟩, e5, e6, e7, e8⟩ := k8 j hj
          obtain ⟨c1, c2, c3, c4⟩ := r2 j hj
          have x : ∀ k, 99 ≤ k → k ≤ 102 → τ3 k j = τe k j := fun k h1 h2 => (g2 k j (by omega)).trans (d1 _ _ (by omega))
          have h16 : j < 16 := by omega
          have h17 : j < 17 := by omega
          have h17' : j + 1 < 17 := by omega
          refine ⟨⟨?_, ?_, ?_, ?_⟩, by rw [c1, x 99 (by decide) (by decide)]; exact e5, by rw [c2, x 100 (by decide) (by decide)]; exact e6, by rw [c3, x 101 (by decide) (by decide)]; exact e7, by rw [c4, x 102 (by decide) (by decide)]; exact e8, k11 j hj⟩
          · simp [pU, pKp, cpL, h16]
            exact e1
          · simp [pU, pKp, cpL, h17]
            exact e2
          · simp [pU, pKp, cpL, h16]
            exact e3
          · simp only [pU, pKp, cpL]
            simp [h17']
            exact e4
      · have f1 : FR QLx τe τ1 := by
          rw [← hτ1]
          exact (FR.u (by unfold QLx; omega)).tr (FR.u (by unfold QLx; omega))
        exact ((y0.tr (k10.mono qW)).tr f1).tr ((p3.mono (fun k x h => by unfold Q3 at h; unfold QLx; omega)).tr (r3.mono (fun k x h => by unfold Q4 at h; unfold QLx; omega)))
  · have eM : f_M_law_84 a τ = some (-1, τ) := by
      unfold f_M_law_84
      rw [m_in, Option.bind_some]
      dsimp only
      by_cases hc : 1 ≤ a ∧ a ≤ 240
      · rw [if_pos hc, if_neg (by decide), if_neg (by omega)]
      · rw [if_neg hc, if_pos rfl]
    have eX : f_X_law_0 a σ = some (-1, σ) := by
      unfold f_X_law_0
      by_cases h1 : a < 1
      · rw [if_pos h1]
      · rw [if_neg h1]
        by_cases h2 : 240 < a
        · rw [if_pos h2]
        · rw [if_neg h2, if_neg (by omega)]
    exact ⟨-1, σ, τ, eX, eM, hTR', fun h => h, FR.rf _ _, FR.rf _ _⟩
theorem bt_and (x : BitVec 32) (s : Nat) (hs : s ≤ 24) : (((x.sshiftRight s).setWidth 8).signExtend 32) &&& 255#32 = (x >>> s) &&& 255#32 := by
  apply BitVec.eq_of_getLsbD_eq
  intro i hi
  have h255 : (255#32).getLsbD i = decide (i < 8) := by
    revert i
    decide
  simp only [BitVec.getLsbD_and, h255]
  by_cases h : i < 8
  · simp only [h, decide_true, Bool.and_true]
    rw [BitVec.getLsbD_signExtend, BitVec.getLsbD_setWidth, BitVec.getLsbD_sshiftRight, BitVec.getLsbD_ushiftRight]
    have h1 : ¬ 32 ≤ i := by omega
    have h2 : s + i < 32 := by omega
    simp [h, hi, h2, h1]
  · simp [h]
theorem bt_i8 (x : Int32) : (x.toInt8.toInt32).toBitVec = (x.toBitVec.setWidth 8).signExtend 32 := by
  simp
  rw [BitVec.signExtend_eq_setWidth_of_le x.toBitVec (show 8 ≤ 32 by decide)]
theorem bt_8 (s : Int) (n : Nat) (hn : n ≤ 24) (hs : ∀ x : Int32, (x >>> (Int32.ofInt s &&& 31)).toBitVec = x.toBitVec.sshiftRight n) (hu : ∀ x : Int32, ((x.toUInt32 >>> ((Int32.ofInt s).toUInt32 &&& Int32.toUInt32 31)).toInt32).toBitVec = x.toBitVec >>> n) (a : Int) : pAnd (pI2b (pShr a s)) 255 = pAnd (pUsh a s) 255 := by
  unfold pAnd pI2b pShr pUsh pO
  simp only [Int32.ofInt_toInt]
  congr 1
  apply Int32.toBitVec_inj.mp
  show ((Int32.ofInt a >>> (Int32.ofInt s &&& 31)).toInt8.toInt32).toBitVec &&& 255#32 = (((Int32.ofInt a).toUInt32 >>> ((Int32.ofInt s).toUInt32 &&& Int32.toUInt32 31)).toInt32).toBitVec &&& 255#32
  rw [bt_i8, hs, hu]
  exact bt_and _ _ hn
theorem bt_0 (a : Int) : pAnd (pI2b (pShr a 0)) 255 = pAnd (pUsh a 0) 255 := bt_8 0 0 (by omega) (fun _ => rfl) (fun _ => rfl) a
theorem bt_1 (a : Int) : pAnd (pI2b (pShr a 8)) 255 = pAnd (pUsh a 8) 255 := bt_8 8 8 (by omega) (fun _ => rfl) (fun _ => rfl) a
theorem bt_2 (a : Int) : pAnd (pI2b (pShr a 16)) 255 = pAnd (pUsh a 16) 255 := bt_8 16 16 (by omega) (fun _ => rfl) (fun _ => rfl) a
theorem bt_3 (a : Int) : pAnd (pI2b (pShr a 24)) 255 = pAnd (pUsh a 24) 255 := bt_8 24 24 (by omega) (fun _ => rfl) (fun _ => rfl) a
theorem pAnd_255 (a : Int) : 0 ≤ pAnd a 255 ∧ pAnd a 255 ≤ 255 := by
  show 0 ≤ ((Int32.ofInt a).toBitVec &&& 255#32).toInt ∧ ((Int32.ofInt a).toBitVec &&& 255#32).toInt ≤ 255
  have h : ((Int32.ofInt a).toBitVec &&& 255#32).toNat ≤ 255 := by
    rw [BitVec.toNat_and]
    exact Nat.and_le_right
  rw [BitVec.toInt_eq_toNat_of_lt (by omega)]
  omega
theorem pI2b_r (a : Int) : -128 ≤ pI2b a ∧ pI2b a ≤ 127 := by
  unfold pI2b
  rw [Int8.toInt_toInt32]
  exact ⟨Int8.le_toInt _, Int8.toInt_le _⟩
theorem bt_k (a : Int) {k : Nat} (hk : k ≤ 3) : pAnd (pI2b (pShr a (8 * (k : Int)))) 255 = pAnd (pUsh a (8 * (k : Int))) 255 := by
  match k, hk with
  | 0, _ => exact bt_0 a
  | 1, _ => exact bt_1 a
  | 2, _ => exact bt_2 a
  | 3, _ => exact bt_3 a
def fX (σ : pS) (v : Int) : pS := pU (pU σ 2 (σ 1 1).toNat v) 1 1 (σ 1 1 + 1)
def fY (τ : pS) (v : Int) : pS := pU (pU τ 96 (τ 84 18).toNat v) 84 18 (τ 84 18 + 1)
theorem fd_c (n : Nat) (a : Int) {k : Nat} (hk : k ≤ 3) {σ : pS} (h : 0 ≤ σ 1 1 ∧ σ 1 1 < 260) : f_Tape_add_1_p3 (n + 1) a (8 * (k : Int)) σ = f_Tape_add_1_p3 n a (8 * (k : Int) - 8) (fX σ (pAnd (pUsh a (8 * (k : Int))) 255)) := by
  show (if 8 * (k : Int) < 0 then _ else _) = _
  rw [if_neg (by omega), if_neg (by omega), if_pos h, pw_id (by omega) (by omega), pw_id (by omega) (by omega)]
  rfl
theorem fd_m (n : Nat) (a : Int) {k : Nat} (hk : k ≤ 3) {τ : pS} (h : 0 ≤ τ 84 18 ∧ τ 84 18 < 260) : f_M_types_84_p2 (n + 1) a (k : Int) τ = f_M_types_84_p2 n a ((k : Int) - 1) (fY τ (pI2b (pShr a (8 * (k : Int))))) := by
  show (if (k : Int) < 0 then _ else _) = _
  rw [if_neg (by omega), if_pos h, pw_id (z := 8 * (k : Int)) (by omega) (by omega), if_pos (pI2b_r _), pw_id (by omega) (by omega), pw_id (by omega) (by omega)]
  rfl
theorem fd_tr {σ τ : pS} (h : TR σ τ) (h2 : σ 1 1 < 260) (a : Int) {k : Nat} (hk : k ≤ 3) : TR (fX σ (pAnd (pUsh a (8 * (k : Int))) 255)) (fY τ (pI2b (pShr a (8 * (k : Int))))) ∧ fX σ (pAnd (pUsh a (8 * (k : Int))) 255) 1 1 = σ 1 1 + 1 := by
  obtain ⟨h1, h3, h4⟩ := h
  have e1 : fX σ (pAnd (pUsh a (8 * (k : Int))) 255) 1 1 = σ 1 1 + 1 := pU_s _ _ _ _
  refine ⟨⟨?_, by rw [e1]; omega, fun i hi => ?_⟩, e1⟩
  · rw [e1]
    unfold fY
    rw [pU_s, h1]
  · rw [e1] at hi
    unfold fX fY
    rw [pU_c (pU σ 2 (σ 1 1).toNat (pAnd (pUsh a (8 * (k : Int))) 255)) 1 (σ 1 1 + 1) i (by decide), pU_c (pU τ 96 (τ 84 18).toNat (pI2b (pShr a (8 * (k : Int))))) 18 (τ 84 18 + 1) i (by decide)]
    by_cases hx : (i : Int) = σ 1 1
    · have e2 : (σ 1 1).toNat = i := by omega
      have e3 : (τ 84 18).toNat = i := by omega
      rw [e2, e3, pU_s, pU_s, bt_k a hk]
      exact ⟨rfl, pAnd_255 _⟩
    · rw [pU_i _ _ _ _ (by omega), pU_i _ _ _ _ (by omega)]
      exact h4 i (by omega)
def PT (k _x : Nat) : Prop := k = 1 ∨ k = 2
def QT (k x : Nat) : Prop := k = 96 ∨ (k = 84 ∧ x = 18)
theorem fX_fr (σ : pS) (v : Int) : FR PT σ (fX σ v) := (FR.u (Or.inr rfl)).tr (FR.u (Or.inl rfl))
theorem fY_fr (σ : pS) (v : Int) : FR QT σ (fY σ v) := (FR.u (Or.inl rfl)).tr (FR.u (Or.inr ⟨rfl, rfl⟩))
theorem fd_w {σ τ : pS} (h : TR σ τ) (h2 : σ 1 1 + 4 ≤ 260) (a : Int) : ∃ σ' τ', f_Tape_add_1 a σ = some (0, σ') ∧ f_M_types_84 a τ = some (0, τ') ∧ TR σ' τ' ∧ σ' 1 1 = σ 1 1 + 4 ∧ FR PT σ σ' ∧ FR QT τ τ' := by
  have r := h.2.1
  obtain ⟨t1, e1⟩ := fd_tr h (by omega) a (k := 3) (by omega)
  obtain ⟨t2, e2⟩ := fd_tr t1 (by omega) a (k := 2) (by omega)
  obtain ⟨t3, e3⟩ := fd_tr t2 (by omega) a (k := 1) (by omega)
  obtain ⟨t4, e4⟩ := fd_tr t3 (by omega) a (k := 0) (by omega)
  refine ⟨_, _, ?_, ?_, t4, by omega, (((fX_fr _ _).tr (fX_fr _ _)).tr (fX_fr _ _)).tr (fX_fr _ _), (((fY_fr _ _).tr (fY_fr _ _)).tr (fY_fr _ _)).tr (fY_fr _ _)⟩
  · show f_Tape_add_1_p3 (4095 + 1) a (8 * ((3 : Nat) : Int)) σ = _
    rw [fd_c 4095 a (k := 3) (by omega) (by omega)]
    show f_Tape_add_1_p3 (4094 + 1) a (8 * ((2 : Nat) : Int)) _ = _
    rw [fd_c 4094 a (k := 2) (by omega) (by omega)]
    show f_Tape_add_1_p3 (4093 + 1) a (8 * ((1 : Nat) : Int)) _ = _
    rw [fd_c 4093 a (k := 1) (by omega) (by omega)]
    show f_Tape_add_1_p3 (4092 + 1) a (8 * ((0 : Nat) : Int)) _ = _
    rw [fd_c 4092 a (k := 0) (by omega) (by omega)]
    rfl
  · have b0 := h.1
    have b1 := t1.1
    have b2 := t2.1
    have b3 := t3.1
    show f_M_types_84_p2 (4095 + 1) a ((3 : Nat) : Int) τ = _
    rw [fd_m 4095 a (k := 3) (by omega) (by omega)]
    show f_M_types_84_p2 (4094 + 1) a ((2 : Nat) : Int) _ = _
    rw [fd_m 4094 a (k := 2) (by omega) (by omega)]
    show f_M_types_84_p2 (4093 + 1) a ((1 : Nat) : Int) _ = _
    rw [fd_m 4093 a (k := 1) (by omega) (by omega)]
    show f_M_types_84_p2 (4092 + 1) a ((0 : Nat) : Int) _ = _
    rw [fd_m 4092 a (k := 0) (by omega) (by omega)]
    rfl
/-- feed: tapes alike stay so, the answers are equal -/
theorem feed_ls {σ τ : pS} (a b c d e : Int) (h : TR σ τ) : ∃ v σ' τ', f_X_feed_0 a b c d e σ = some (v, σ') ∧ f_M_feed_84 a b c d e τ = some (v, τ') ∧ TR σ' τ' ∧ FR PT σ σ' ∧ FR QT τ τ' := by
  have r := h.2.1
  have e0 := h.1
  unfold f_X_feed_0 f_M_feed_84
  rw [pw_id (z := σ 1 1 + 20) (by omega) (by omega), pw_id (z := τ 84 18 + 20) (by omega) (by omega)]
  by_cases hc : σ 1 1 + 20 ≤ 260
  · obtain ⟨s1, u1, x1, y1, t1, l1, a1, b1⟩ := fd_w h (by omega) a
    obtain ⟨s2, u2, x2, y2, t2, l2, a2, b2⟩ := fd_w t1 (by omega) b
    obtain ⟨s3, u3, x3, y3, t3, l3, a3, b3⟩ := fd_w t2 (by omega) c
    obtain ⟨s4, u4, x4, y4, t4, l4, a4, b4⟩ := fd_w t3 (by omega) d
    obtain ⟨s5, u5, x5, y5, t5, l5, a5, b5⟩ := fd_w t4 (by omega) e
    refine ⟨s5 1 1, s5, u5, ?_, ?_, t5, (((a1.tr a2).tr a3).tr a4).tr a5, (((b1.tr b2).tr b3).tr b4).tr b5⟩
    · rw [if_pos hc, x1, Option.bind_some, x2, Option.bind_some, x3, Option.bind_some, x4, Option.bind_some, x5, Option.bind_some]
    · rw [if_pos (by omega), y1, Option.bind_some, y2, Option.bind_some, y3, Option.bind_some, y4, Option.bind_some, y5, Option.bind_some, t5.1]
  · exact ⟨-1, σ, τ, if_neg hc, if_neg (by omega), h, FR.rf _ _, FR.rf _ _⟩
section SD
variable {σ τ : pS} {m : Nat} {rec : Nat → O8}
theorem m_gives (hm : m ≤ 20) (h : ∀ j, j < m → CRp σ j (rec j) ∧ MRp τ j (rec j) ∧ VR (rec j)) {k : Nat} (hk : k < m) {r : Int} (hr : 0 ≤ r) : f_M_gives_84 (k : Int) r τ = some (if σ 8 k = r then 1 else 0, τ) := by
  obtain ⟨hc, hM, hv⟩ := h k hk
  have g : (0 : Int) ≤ (k : Int) ∧ (k : Int) < 20 := by omega
  unfold f_M_gives_84
  simp only [Int.toNat_natCast, if_pos g]
  simp only [hM.1, hM.2.2.1]
  rcases hc.2.2.2.1 with ⟨a1, a2, -⟩ | ⟨a1, a2, -⟩
  · rw [if_pos a1, a2, if_neg (by omega)]
  · rw [if_neg a1, a2]
    by_cases h2 : (rec k).2.2.2.1 = r
    · rw [if_pos h2, if_pos h2]
    · rw [if_neg h2, if_neg h2]
theorem m_reads (hm : m ≤ 20) (h : ∀ j, j < m → CRp σ j (rec j) ∧ MRp τ j (rec j) ∧ VR (rec j)) {k : Nat} (hk : k < m) {r : Int} (hr : 0 ≤ r) : f_M_doesRead_84 (k : Int) r τ = some (if σ 9 k = r ∨ σ 10 k = r then 1 else 0, τ) := by
  obtain ⟨hc, hM, hv⟩ := h k hk
  have g : (0 : Int) ≤ (k : Int) ∧ (k : Int) < 20 := by omega
  obtain ⟨v1, v2, v3, v4, -⟩ := hv
  obtain ⟨-, -, -, c4, c5, -⟩ := hc
  obtain ⟨m1, -, m3, m4, m5, -⟩ := hM
  unfold f_M_doesRead_84
  simp only [Int.toNat_natCast, if_pos g]
  simp only [m1]
  by_cases k0 : (rec k).1 = 0
  · rw [if_pos k0, if_neg]
    rcases c4 with ⟨a1, -⟩ | ⟨-, a2, a3⟩
    · omega
    rcases c5 with ⟨a1, -⟩ | ⟨-, a5⟩
    · omega
    rcases v3 with ⟨a1, -⟩ | ⟨-, a6, a7⟩
    · omega
    rcases v4 with ⟨a1, -⟩ | ⟨-, a8, a9⟩
    · omega
    omega
  rw [if_neg k0]
  by_cases k1 : (rec k).1 = 1
  · rw [if_pos k1]
    obtain ⟨q1, q2⟩ := m4 k1
    simp only [q1, q2]
    rcases c4 with ⟨a1, -⟩ | ⟨-, a2, a3⟩
    · omega
    rcases c5 with ⟨-, a5⟩ | ⟨a1, -⟩
    · rw [a3, a5]
      by_cases h1 : (rec k).2.2.2.2.1 = r
      · rw [if_pos h1, if_pos (Or.inl h1)]
      · rw [if_neg h1]
        by_cases h2 : (rec k).2.2.2.2.2.1 = r
        · rw [if_pos h2, if_pos (Or.inr h2)]
        · rw [if_neg h2, if_neg (by omega)]
    · omega
  rw [if_neg k1]
  obtain ⟨q1, q2⟩ := m5 (by omega)
  have v3' : (rec k).2.2.2.2.1 = -1 := by
    rcases v3 with ⟨a1, -⟩ | ⟨-, a6, -⟩
    · omega
    · exact a6
  have c5' : σ 10 k = (rec k).2.2.2.2.2.2.1 := by
    rcases c5 with ⟨a1, -⟩ | ⟨-, a5⟩
    · omega
    · exact a5
  by_cases k2 : (rec k).1 = 2
  · rw [if_pos k2]
    simp only [q2]
    rcases c4 with ⟨a1, -⟩ | ⟨-, a2, a3⟩
    · omega
    rw [a3, c5']
    by_cases h1 : (rec k).2.2.2.2.2.2.1 = r
    · rw [if_pos h1, if_pos (Or.inr h1)]
    · rw [if_neg h1, if_neg (by omega)]
  · rw [if_neg k2]
    simp only [m3, q2]
    rcases c4 with ⟨-, a2, a3⟩ | ⟨a1, -⟩
    · rw [a3, c5']
      by_cases h1 : (rec k).2.2.2.1 = r
      · rw [if_pos h1, if_pos (Or.inl h1)]
      · rw [if_neg h1]
        by_cases h2 : (rec k).2.2.2.2.2.2.1 = r
        · rw [if_pos h2, if_pos (Or.inr h2)]
        · rw [if_neg h2, if_neg (by omega)]
    · omega
theorem m_giv0 (hm : m ≤ 20) (h : ∀ j, j < m → CRp σ j (rec j) ∧ MRp τ j (rec j) ∧ VR (rec j)) {r : Int} (hr : 0 ≤ r) : ∀ (i fu : Nat), i ≤ m → i < fu → f_M_giverOf_84_p4 fu r ((i : Int) - 1) τ = some (gv (σ 8) i r, τ)
  | 0, fu, _, hf => by
    obtain ⟨n, rfl⟩ : ∃ n, fu = n + 1 := ⟨fu - 1, by omega⟩
    show (if ((0 : Nat) : Int) - 1 < 0 then _ else _) = _
    rw [if_pos (by omega)]
    rfl
  | i + 1, fu, hi, hf => by
    obtain ⟨n, rfl⟩ : ∃ n, fu = n + 1 := ⟨fu - 1, by omega⟩
    show (if ((i + 1 : Nat) : Int) - 1 < 0 then _ else _) = _
    have e : ((i + 1 : Nat) : Int) - 1 = (i : Int) := by omega
    rw [if_neg (by omega), e, m_gives hm h (show i < m by omega) hr, Option.bind_some]
    unfold gv
    by_cases hg : σ 8 i = r
    · simp only [if_pos hg]
      rfl
    · simp only [if_neg hg]
      rw [if_pos trivial, pw_id (by omega) (by omega), show (i : Int) + -1 = (i : Int) - 1 by omega]
      exact m_giv0 hm h hr i n (by omega) (by omega)
theorem m_giv (hm : m ≤ 20) (h : ∀ j, j < m → CRp σ j (rec j) ∧ MRp τ j (rec j) ∧ VR (rec j)) {r : Int} (hr : 0 ≤ r) {i : Nat} (hi : i ≤ m) : f_M_giverOf_84 (i : Int) r τ = some (gv (σ 8) i r, τ) := by
  unfold f_M_giverOf_84
  rw [pw_id (by omega) (by omega)]
  exact m_giv0 hm h hr i 4096 hi (by omega)
end SD
/-- source: equal answers -/
theorem source_ls {σ τ : pS} (a b : Int) (hP : PRG σ τ) : ∃ v, f_X_source_0 a b σ = some (v, σ) ∧ f_M_source_84 a b τ = some (v, τ) := by
  obtain ⟨m, rec, D, hm, h1, h2, h3, h4, -⟩ := hP
  have eA : ∀ s : Int, f_X_orAbsent s σ = some (if s = -1 then -2 else s, σ) := fun s => by
    unfold f_X_orAbsent
    split <;> rfl
  have eB : ∀ s : Int, f_M_source_84_p39 s τ = some (if s = -1 then -2 else s, τ) := fun s => by
    unfold f_M_source_84_p39
    split <;> rfl
  have eO : f_X_isOp_0 a σ = some (if 0 ≤ a ∧ a < m then 1 else 0, σ) := by
    unfold f_X_isOp_0
    rw [h1]
    by_cases q : a < 0
    · rw [if_pos q, if_neg (by omega)]
    · rw [if_neg q]
      by_cases q2 : (m : Int) ≤ a
      · rw [if_pos q2, if_neg (by omega)]
      · rw [if_neg q2, if_pos (by omega)]
  have eP : f_M_isOp_84 a τ = some (if 0 ≤ a ∧ a < m then 1 else 0, τ) := by
    unfold f_M_isOp_84
    rw [h2, pw_id (by omega) (by omega), m_in, Option.bind_some]
    by_cases q : 0 ≤ a ∧ a ≤ (m : Int) - 1
    · rw [if_pos q, if_pos (show 0 ≤ a ∧ a < (m : Int) by omega)]
      rfl
    · rw [if_neg q, if_neg (show ¬ (0 ≤ a ∧ a < (m : Int)) by omega)]
      rfl
  unfold f_X_source_0 f_M_source_84
  rw [eO, eP, Option.bind_some, Option.bind_some]
  by_cases q : 0 ≤ a ∧ a < (m : Int)
  · rw [if_pos q]
    simp only [x_isCell, m_in, Option.bind_some]
    rw [if_neg (show ¬ ((1 : Int) = 0) by omega), if_neg (show ¬ ((1 : Int) = 0) by omega)]
    by_cases q2 : 0 ≤ b ∧ b < 8
    · have q3 : 0 ≤ b ∧ b ≤ 7 := by omega
      simp only [if_pos q2, if_pos q3]
      rw [if_neg (show ¬ ((1 : Int) = 0) by omega), if_neg (show ¬ ((1 : Int) = 0) by omega)]
      obtain ⟨i, rfl⟩ : ∃ i : Nat, a = (i : Int) := ⟨a.toNat, by omega⟩
      have hi : i < m := by omega
      have g : (0 : Int) ≤ (i : Int) ∧ (i : Int) < 20 := by omega
      obtain ⟨s1, s2⟩ := h4 i hi
      simp only [if_pos g, Int.toNat_natCast]
      rw [m_reads hm h3 hi q2.1, Option.bind_some]
      simp only [m_giv hm h3 q2.1 (Nat.le_of_lt hi), Option.bind_some, eA, eB]
      by_cases f1 : σ 9 i = b
      · rw [if_pos f1, if_pos (Or.inl f1), s1, f1, if_neg (show ¬ ((1 : Int) = 0) by omega)]
        unfold src
        rw [if_pos q2]
        exact ⟨_, rfl, rfl⟩
      · rw [if_neg f1]
        by_cases f2 : σ 10 i = b
        · rw [if_pos f2, if_pos (Or.inr f2), s2, f2, if_neg (show ¬ ((1 : Int) = 0) by omega)]
          unfold src
          rw [if_pos q2]
          exact ⟨_, rfl, rfl⟩
        · rw [if_neg f2, if_neg (show ¬ (σ 9 i = b ∨ σ 10 i = b) by omega), if_pos rfl]
          exact ⟨_, rfl, rfl⟩
    · have q3 : ¬ (0 ≤ b ∧ b ≤ 7) := by omega
      simp only [if_neg q2, if_neg q3]
      exact ⟨-1, rfl, rfl⟩
  · rw [if_neg q]
    exact ⟨-1, rfl, rfl⟩
def dk (D : Nat → Int) (k : Nat) (s : Int) : Int := if 0 ≤ s ∧ s < (k : Int) then D s.toNat else 0
section DP
variable {σ τ : pS} {m : Nat} {rec : Nat → O8}
def hX (σ : pS) (i r : Nat) (k : Int) : Prop := ∃ x : Nat, r ≤ x ∧ x < 8 ∧ (σ 9 i = (x : Int) ∨ σ 10 i = (x : Int)) ∧ gv (σ 8) i (x : Int) = k
theorem m_has0 (hm : m ≤ 20) (h : ∀ j, j < m → CRp σ j (rec j) ∧ MRp τ j (rec j) ∧ VR (rec j)) {i : Nat} (hi : i < m) {k : Int} : ∀ (d r fu : Nat), r + d = 8 → d < fu → ∃ b : Int, f_M_hasSource_84_p2 fu (i : Int) k (r : Int) τ = some (b, τ) ∧ ((b = 1 ∧ hX σ i r k) ∨ (b = 0 ∧ ¬ hX σ i r k))
  | 0, r, fu, hr, hf => by
    obtain ⟨n, rfl⟩ : ∃ n, fu = n + 1 := ⟨fu - 1, by omega⟩
    show ∃ b : Int, (if (8 : Int) ≤ (r : Int) then _ else _) = _ ∧ _
    rw [if_pos (by omega)]
    refine ⟨0, rfl, Or.inr ⟨rfl, ?_⟩⟩
    rintro ⟨x, x1, x2, -⟩
    omega
  | d + 1, r, fu, hr, hf => by
    obtain ⟨n, rfl⟩ : ∃ n, fu = n + 1 := ⟨fu - 1, by omega⟩
    show ∃ b : Int, (if (8 : Int) ≤ (r : Int) then _ else _) = _ ∧ _
    rw [if_neg (by omega), m_reads hm h hi (by omega), Option.bind_some]
    obtain ⟨b, ih, hb⟩ := m_has0 hm h hi (k := k) d (r + 1) n (by omega) (by omega)
    have e : pw ((r : Int) + 1) = ((r + 1 : Nat) : Int) := by rw [pw_id (by omega) (by omega)]; omega
    have up : ¬ ((σ 9 i = (r : Int) ∨ σ 10 i = (r : Int)) ∧ gv (σ 8) i (r : Int) = k) → ((b = 1 ∧ hX σ i r k) ∨ (b = 0 ∧ ¬ hX σ i r k)) := fun hno => by
      rcases hb with ⟨b1, x, x1, x2⟩ | ⟨b1, b2⟩
      · exact Or.inl ⟨b1, x, by omega, x2⟩
      · refine Or.inr ⟨b1, ?_⟩
        rintro ⟨x, x1, x2, x3⟩
        by_cases hx : x = r
        · rw [hx] at x3
          exact hno x3
        · exact b2 ⟨x, by omega, x2, x3⟩
    by_cases h1 : σ 9 i = (r : Int) ∨ σ 10 i = (r : Int)
    · simp only [if_pos h1]
      rw [if_neg (by omega), m_giv hm h (show (0 : Int) ≤ (r : Int) by omega) (Nat.le_of_lt hi), Option.bind_some]
      by_cases h2 : gv (σ 8) i (r : Int) = k
      · simp only [if_pos h2]
        exact ⟨1, rfl, Or.inl ⟨rfl, r, Nat.le_refl _, by omega, h1, h2⟩⟩
      · simp only [if_neg h2]
        rw [e, ih]
        exact ⟨b, rfl, up (fun q => h2 q.2)⟩
    · simp only [if_neg h1]
      rw [if_pos trivial, e, ih]
      exact ⟨b, rfl, up (fun q => h1 q.1)⟩
theorem m_has (hm : m ≤ 20) (h : ∀ j, j < m → CRp σ j (rec j) ∧ MRp τ j (rec j) ∧ VR (rec j)) {i : Nat} (hi : i < m) {k : Nat} : f_M_hasSource_84 (i : Int) (k : Int) τ = some (if src (σ 8) i (σ 9 i) = (k : Int) ∨ src (σ 8) i (σ 10 i) = (k : Int) then 1 else 0, τ) := by
  obtain ⟨b, e, hb⟩ := m_has0 hm h hi (k := (k : Int)) 8 0 4096 (by omega) (by omega)
  refine (show f_M_hasSource_84 (i : Int) (k : Int) τ = _ from e).trans ?_
  have hh : hX σ i 0 (k : Int) ↔ (src (σ 8) i (σ 9 i) = (k : Int) ∨ src (σ 8) i (σ 10 i) = (k : Int)) := by
    unfold src
    constructor
    · rintro ⟨x, -, x2, x3 | x3, x4⟩
      · left
        rw [x3, if_pos (by omega)]
        exact x4
      · right
        rw [x3, if_pos (by omega)]
        exact x4
    · rintro (q | q)
      · by_cases hr : 0 ≤ σ 9 i ∧ σ 9 i < 8
        · rw [if_pos hr] at q
          exact ⟨(σ 9 i).toNat, by omega, by omega, Or.inl (by omega), by rw [show (((σ 9 i).toNat : Nat) : Int) = σ 9 i by omega]; exact q⟩
        · rw [if_neg hr] at q
          omega
      · by_cases hr : 0 ≤ σ 10 i ∧ σ 10 i < 8
        · rw [if_pos hr] at q
          exact ⟨(σ 10 i).toNat, by omega, by omega, Or.inr (by omega), by rw [show (((σ 10 i).toNat : Nat) : Int) = σ 10 i by omega]; exact q⟩
        · rw [if_neg hr] at q
          omega
  rcases hb with ⟨b1, b2⟩ | ⟨b1, b2⟩
  · rw [b1, if_pos (hh.mp b2)]
  · rw [b1, if_neg (fun q => b2 (hh.mpr q))]
theorem MRp.o {τ τ' : pS} {j : Nat} {r : O8} (h : MRp τ j r) (e : ∀ k x, k ≠ 143 → τ' k x = τ k x) : MRp τ' j r := by
  unfold MRp at *
  rw [e 88 _ (by decide), e 89 _ (by decide), e 90 _ (by decide), e 91 _ (by decide), e 92 _ (by decide), e 93 _ (by decide), e 94 _ (by decide), e 95 _ (by decide)]
  exact h
theorem m_mx {a b : Int} {τ : pS} : f_M_max a b τ = some (pMax a b, τ) := by
  unfold f_M_max pMax
  by_cases h : a ≤ b
  · rw [if_pos h]
    by_cases h2 : a < b
    · rw [if_pos h2]
    · rw [if_neg h2, show b = a by omega]
  · rw [if_neg h, if_neg (by omega)]
theorem m_d21 {D : Nat → Int} (hm : m ≤ 20) (K : Int → Int → pS → Option (Int × pS)) (hD : ∀ j, j < m → 1 ≤ D j ∧ D j ≤ (j : Int) + 1) {i : Nat} (hi : i < m) (mo : Int) : ∀ (d k fu : Nat) (τ : pS), k + d = i → d < fu → (∀ j, j < m → CRp σ j (rec j) ∧ MRp τ j (rec j) ∧ VR (rec j)) → (∀ j, j < i → τ 143 j = D j) → τ 143 i = 1 + pMax (dk D k (src (σ 8) i (σ 9 i))) (dk D k (src (σ 8) i (σ 10 i))) →
    ∃ τ', f_M_deep_84_p21 K fu mo (i : Int) (k : Int) τ = K (pMax mo (1 + pMax (dz D (src (σ 8) i (σ 9 i))) (dz D (src (σ 8) i (σ 10 i))))) ((i : Int) + 1) τ' ∧ (∀ k x, k ≠ 143 → τ' k x = τ k x) ∧ (∀ j, j < i → τ' 143 j = D j) ∧ τ' 143 i = 1 + pMax (dz D (src (σ 8) i (σ 9 i))) (dz D (src (σ 8) i (σ 10 i)))
  | 0, k, fu, τ, hk, hf, h, hd, hc => by
    obtain ⟨n, rfl⟩ : ∃ n, fu = n + 1 := ⟨fu - 1, by omega⟩
    obtain rfl : k = i := by omega
    have g : (0 : Int) ≤ (k : Int) ∧ (k : Int) < 20 := by omega
    have s1 := src_r (σ 8) k (σ 9 k)
    have s2 := src_r (σ 8) k (σ 10 k)
    have ez : ∀ s : Int, -1 ≤ s → s < (k : Int) → dk D k s = dz D s := fun s q1 q2 => by
      unfold dk dz
      by_cases q : s < 0
      · rw [if_pos q, if_neg (by omega)]
      · rw [if_neg q, if_pos (by omega)]
    rw [ez _ s1.1 s1.2, ez _ s2.1 s2.2] at hc
    refine ⟨τ, ?_, fun _ _ _ => rfl, hd, hc⟩
    show (if (k : Int) ≤ (k : Int) then _ else _) = _
    rw [if_pos (by omega), if_pos g, m_mx, Option.bind_some, Int.toNat_natCast, hc, pw_id (by omega) (by omega)]
  | d + 1, k, fu, τ, hk, hf, h, hd, hc => by
    obtain ⟨n, rfl⟩ : ∃ n, fu = n + 1 := ⟨fu - 1, by omega⟩
    have g : (0 : Int) ≤ (i : Int) ∧ (i : Int) < 20 := by omega
    have g2 : (0 : Int) ≤ (k : Int) ∧ (k : Int) < 20 := by omega
    have s1 := src_r (σ 8) i (σ 9 i)
    have s2 := src_r (σ 8) i (σ 10 i)
    have e : pw ((k : Int) + 1) = ((k + 1 : Nat) : Int) := by rw [pw_id (by omega) (by omega)]; omega
    have dk1 := hD k (by omega)
    have dn : ∀ s : Int, s ≠ (k : Int) → dk D (k + 1) s = dk D k s := fun s q => by
      unfold dk
      by_cases q2 : 0 ≤ s ∧ s < (k : Int)
      · rw [if_pos q2, if_pos (by omega)]
      · rw [if_neg q2, if_neg (by omega)]
    have dp : dk D (k + 1) (k : Int) = D k := by
      unfold dk
      rw [if_pos (by omega), Int.toNat_natCast]
    have d0 : dk D k (k : Int) = 0 := by
      unfold dk
      rw [if_neg (by omega)]
    show ∃ τ', (if (i : Int) ≤ (k : Int) then _ else _) = _ ∧ _
    rw [if_neg (by omega), m_has hm h hi, Option.bind_some]
    by_cases hs : src (σ 8) i (σ 9 i) = (k : Int) ∨ src (σ 8) i (σ 10 i) = (k : Int)
    · simp only [if_pos hs, if_pos g, if_pos g2, m_mx, Option.bind_some, Int.toNat_natCast]
      rw [if_neg (by omega), hd k (by omega), pw_id (z := D k + 1) (by omega) (by omega), e]
      have hv : pMax (τ 143 i) (D k + 1) = 1 + pMax (dk D (k + 1) (src (σ 8) i (σ 9 i))) (dk D (k + 1) (src (σ 8) i (σ 10 i))) := by
        rw [hc]
        by_cases a1 : src (σ 8) i (σ 9 i) = (k : Int)
        · by_cases a2 : src (σ 8) i (σ 10 i) = (k : Int)
          · rw [a1, a2, dp, d0]
            unfold pMax
            (repeat' split) <;> omega
          · rw [a1, dp, d0, dn _ a2]
            unfold pMax
            (repeat' split) <;> omega
        · have a2 : src (σ 8) i (σ 10 i) = (k : Int) := by omega
          rw [a2, dp, d0, dn _ a1]
          unfold pMax
          (repeat' split) <;> omega
      obtain ⟨τ', q1, q2, q3, q4⟩ := m_d21 hm K hD hi mo d (k + 1) n (pU τ 143 i (pMax (τ 143 i) (D k + 1))) (by omega) (by omega) (fun j hj => ⟨(h j hj).1, (h j hj).2.1.o (fun a x ha => pU_c _ _ _ _ ha), (h j hj).2.2⟩) (fun j hj => by rw [pU_i _ _ _ _ (by omega)]; exact hd j hj) (by rw [pU_s]; exact hv)
      exact ⟨τ', q1, fun a x ha => (q2 a x ha).trans (pU_c _ _ _ _ ha), q3, q4⟩
    · simp only [if_neg hs]
      rw [if_pos trivial, e]
      exact m_d21 hm K hD hi mo d (k + 1) n τ (by omega) (by omega) h hd (by rw [hc, dn _ (by omega), dn _ (by omega)])
end DP
theorem m_d4 {σ : pS} {m : Nat} {rec : Nat → O8} {D : Nat → Int} {dp : Int} (hm : m ≤ 20) (hp : DPT (σ 8) (σ 9) (σ 10) D m dp) : ∀ (d i fu : Nat) (mo : Int) (τ : pS), i + d = m → d < fu → τ 84 2 = (m : Int) → (∀ j, j < m → CRp σ j (rec j) ∧ MRp τ j (rec j) ∧ VR (rec j)) → (∀ j, j < i → τ 143 j = D j) → (0 ≤ mo ∧ (∀ j, j < i → D j ≤ mo) ∧ (i = 0 → mo = 0) ∧ (0 < i → ∃ j, j < i ∧ mo = D j)) → ∃ τ', f_M_deep_84_p4 fu mo (i : Int) τ = some (dp, τ') ∧ ∀ k x, k ≠ 143 → τ' k x = τ k x
  | 0, i, fu, mo, τ, hi, hf, h2, h, hd, ho => by
    obtain ⟨n, rfl⟩ : ∃ n, fu = n + 1 := ⟨fu - 1, by omega⟩
    obtain rfl : i = m := by omega
    obtain ⟨-, p1, p2, p3, p4⟩ := hp
    obtain ⟨o1, o2, o3, o4⟩ := ho
    refine ⟨τ, ?_, fun _ _ _ => rfl⟩
    show (if τ 84 2 ≤ (i : Int) then _ else _) = _
    rw [if_pos (by omega)]
    have : mo = dp := by
      by_cases hz : i = 0
      · rw [o3 hz, p3 hz]
      · obtain ⟨j, j1, j2⟩ := o4 (by omega)
        obtain ⟨k, k1, k2⟩ := p4 (by omega)
        have := p2 j j1
        have := o2 k k1
        omega
    rw [this]
  | d + 1, i, fu, mo, τ, hi, hf, h2, h, hd, ho => by
    obtain ⟨n, rfl⟩ : ∃ n, fu = n + 1 := ⟨fu - 1, by omega⟩
    have g : (0 : Int) ≤ (i : Int) ∧ (i : Int) < 20 := by omega
    obtain ⟨o1, o2, o3, o4⟩ := ho
    have hD : ∀ j, j < m → 1 ≤ D j ∧ D j ≤ (j : Int) + 1 := fun j hj => (hp.1 j hj).1
    have hDi := (hp.1 i (by omega)).2
    show ∃ τ', (if τ 84 2 ≤ (i : Int) then _ else _) = _ ∧ _
    rw [if_neg (by omega), if_pos g, Int.toNat_natCast]
    obtain ⟨τ', q1, q2, q3, q4⟩ := m_d21 (σ := σ) (rec := rec) (D := D) hm (f_M_deep_84_p4 n) hD (show i < m by omega) mo i 0 4096 (pU τ 143 i 1) (by omega) (by omega) (fun j hj => ⟨(h j hj).1, (h j hj).2.1.o (fun a x ha => pU_c _ _ _ _ ha), (h j hj).2.2⟩) (fun j hj => by rw [pU_i _ _ _ _ (by omega)]; exact hd j hj) (by
      rw [pU_s]
      unfold dk
      rw [if_neg (by omega), if_neg (by omega)]
      rfl)
    have e0 : ((0 : Nat) : Int) = 0 := rfl
    rw [e0] at q1
    rw [q1, ← hDi, show (i : Int) + 1 = ((i + 1 : Nat) : Int) by omega]
    rw [← hDi] at q4
    have hDr := hD i (by omega)
    have hh : ∃ τ'', f_M_deep_84_p4 n (pMax mo (D i)) ((i + 1 : Nat) : Int) τ' = some (dp, τ'') ∧ ∀ k x, k ≠ 143 → τ'' k x = τ' k x := by
      refine m_d4 hm hp d (i + 1) n (pMax mo (D i)) τ' (by omega) (by omega) ((q2 84 2 (by decide)).trans ((pU_c _ _ _ _ (by decide)).trans h2)) (fun j hj => ⟨(h j hj).1, (h j hj).2.1.o (fun a x ha => (q2 a x ha).trans (pU_c _ _ _ _ ha)), (h j hj).2.2⟩) (fun j hj => ?_) ⟨?_, fun j hj => ?_, fun hz => by omega, fun _ => ?_⟩
      · by_cases hji : j = i
        · rw [hji]
          exact q4
        · exact q3 j (by omega)
      · unfold pMax
        split <;> omega
      · by_cases hji : j = i
        · rw [hji]
          unfold pMax
          split <;> omega
        · have := o2 j (by omega)
          unfold pMax
          split <;> omega
      · unfold pMax
        by_cases hlt : mo < D i
        · rw [if_pos hlt]
          exact ⟨i, by omega, rfl⟩
        · rw [if_neg hlt]
          by_cases hz : i = 0
          · have := o3 hz
            omega
          · obtain ⟨j, j1, j2⟩ := o4 (by omega)
            exact ⟨j, by omega, j2⟩
    obtain ⟨τ2, z1, z2⟩ := hh
    exact ⟨τ2, z1, fun k x h => (z2 k x h).trans ((q2 k x h).trans (pU_c _ _ _ _ h))⟩
/-- deep: equal answers -/
theorem deep_ls {σ τ : pS} (hP : PRG σ τ) : ∃ v τ', f_X_deep_0 σ = some (v, σ) ∧ f_M_deep_84 τ = some (v, τ') ∧ ∀ k x, k ≠ 143 → τ' k x = τ k x := by
  obtain ⟨m, rec, D, hm, h1, h2, h3, -, h5⟩ := hP
  obtain ⟨τ', q, q2⟩ := m_d4 (rec := rec) hm h5 m 0 4096 0 τ (by omega) (by omega) h2 h3 (fun j hj => absurd hj (Nat.not_lt_zero _)) ⟨by omega, fun j hj => absurd hj (Nat.not_lt_zero _), fun _ => rfl, fun hz => absurd hz (Nat.lt_irrefl _)⟩
  exact ⟨_, τ', rfl, q, q2⟩
theorem ck_70 (a : Int) (σ : pS) : f_X_check_0_p70 a σ = some (a, pU σ 1 1 0) := rfl
theorem ck_lp {σ τ : pS} {A : Nat} (hA : A ≤ 64) (ht : ∀ i : Nat, i < A → σ 2 i = pAnd (τ 96 i) 255) : ∀ (d k fu1 fu2 : Nat), k + d = A → d + 1 < fu1 → d < fu2 → ∃ v w, f_X_check_0_p28 fu1 (A : Int) (-1) (k : Int) σ = some (v, pU σ 1 1 0) ∧ f_M_check_84_p28 fu2 (A : Int) (k : Int) τ = some (w, τ) ∧ ((∀ i : Nat, i < 64 → σ 26 i = τ 86 i) → v = w)
  | 0, k, fu1, fu2, hk, h1, h2 => by
    obtain ⟨m, rfl⟩ : ∃ m, fu1 = m + 1 := ⟨fu1 - 1, by omega⟩
    obtain ⟨n, rfl⟩ : ∃ n, fu2 = n + 1 := ⟨fu2 - 1, by omega⟩
    refine ⟨-1, -1, ?_, ?_, fun _ => rfl⟩
    · show (if (A : Int) ≤ (k : Int) then _ else _) = _
      rw [if_pos (by omega), ck_70]
    · show (if (A : Int) ≤ (k : Int) then _ else _) = _
      rw [if_pos (by omega)]
  | d + 1, k, fu1, fu2, hk, h1, h2 => by
    obtain ⟨m, rfl⟩ : ∃ m, fu1 = m + 1 + 1 := ⟨fu1 - 2, by omega⟩
    obtain ⟨n, rfl⟩ : ∃ n, fu2 = n + 1 := ⟨fu2 - 1, by omega⟩
    have g1 : (0 : Int) ≤ (k : Int) ∧ (k : Int) < 260 := by omega
    have g2 : (0 : Int) ≤ (k : Int) ∧ (k : Int) < 64 := by omega
    have e : pw ((k : Int) + 1) = ((k + 1 : Nat) : Int) := by rw [pw_id (by omega) (by omega)]; omega
    have eX : f_X_check_0_p28 (m + 1 + 1) (A : Int) (-1) (k : Int) σ = (if (σ 2 k) = (σ 26 k) then (f_X_check_0_p28 (m + 1) (A : Int) (-1) ((k + 1 : Nat) : Int) σ) else (f_X_check_0_p28 (m + 1) (A : Int) (k : Int) ((k + 1 : Nat) : Int) σ)) := by
      show (if (A : Int) ≤ (k : Int) then _ else _) = _
      rw [if_neg (by omega), if_pos rfl, if_pos g1, if_pos g2, Int.toNat_natCast, e]
    have eM : f_M_check_84_p28 (n + 1) (A : Int) (k : Int) τ = (if pAnd (τ 96 k) 255 = (τ 86 k) then (f_M_check_84_p28 n (A : Int) ((k + 1 : Nat) : Int) τ) else (some ((k : Int), τ))) := by
      show (if (A : Int) ≤ (k : Int) then _ else _) = _
      unfold f_M_octet_84
      rw [if_neg (by omega), if_pos g1, Option.bind_some]
      dsimp only
      rw [if_pos g2, Int.toNat_natCast, e]
    have eF : f_X_check_0_p28 (m + 1) (A : Int) (k : Int) ((k + 1 : Nat) : Int) σ = some ((k : Int), pU σ 1 1 0) := by
      show (if (A : Int) ≤ ((k + 1 : Nat) : Int) then _ else _) = _
      by_cases hz : (A : Int) ≤ ((k + 1 : Nat) : Int)
      · rw [if_pos hz, ck_70]
      · rw [if_neg hz, if_neg (by omega), ck_70]
    obtain ⟨v, w, i1, i2, i3⟩ := ck_lp hA ht d (k + 1) (m + 1) n (by omega) (by omega) (by omega)
    rw [eX, eM, eF, i1, i2, ← ht k (by omega)]
    by_cases q1 : σ 2 k = σ 26 k
    · rw [if_pos q1]
      by_cases q2 : σ 2 k = τ 86 k
      · rw [if_pos q2]
        exact ⟨v, w, rfl, rfl, i3⟩
      · rw [if_neg q2]
        exact ⟨v, _, rfl, rfl, fun h => absurd (q1.trans (h k (by omega))) q2⟩
    · rw [if_neg q1]
      by_cases q2 : σ 2 k = τ 86 k
      · rw [if_pos q2]
        exact ⟨_, w, rfl, rfl, fun h => absurd (q2.trans (h k (by omega)).symm) q1⟩
      · rw [if_neg q2]
        exact ⟨_, _, rfl, rfl, fun _ => rfl⟩
/-- check: tapes alike stay so; with memories alike the answers are equal -/
theorem check_ls {σ τ : pS} {a : Int} (h : TR σ τ) : ∃ v w σ' τ', f_X_check_0 a σ = some (v, σ') ∧ f_M_check_84 a τ = some (w, τ') ∧ TR σ' τ' ∧ ((∀ i : Nat, i < 64 → σ 26 i = τ 86 i) → v = w) ∧ FR PT σ σ' ∧ FR QT τ τ' := by
  have h' := h
  obtain ⟨t1, t2, t3⟩ := h
  by_cases hb : (0 ≤ a ∧ a ≤ 64) ∧ a ≤ σ 1 1
  · obtain ⟨hb1, hb2⟩ := hb
    obtain ⟨A, rfl⟩ : ∃ A : Nat, a = (A : Int) := ⟨a.toNat, by omega⟩
    obtain ⟨v, w, q1, q2, q3⟩ := ck_lp (σ := σ) (τ := pU τ 84 18 0) (A := A) (by omega) (fun i hi => by rw [pU_c _ _ _ _ (by decide)]; exact (t3 i (by omega)).1) A 0 4096 4096 (by omega) (by omega) (by omega)
    refine ⟨v, w, pU σ 1 1 0, pU τ 84 18 0, ?_, ?_, ⟨by rw [pU_s, pU_s], by rw [pU_s]; omega, fun i hi => by rw [pU_s] at hi; omega⟩, fun hm => q3 (fun i hi => by rw [pU_c _ _ _ _ (by decide)]; exact hm i hi), FR.u (Or.inl rfl), FR.u (Or.inr ⟨rfl, rfl⟩)⟩
    · unfold f_X_check_0
      rw [if_neg (by omega), if_neg (by omega), if_pos hb2]
      exact q1
    · unfold f_M_check_84
      rw [m_in, if_pos hb1, Option.bind_some]
      dsimp only
      rw [if_neg (by decide), if_pos (by omega)]
      exact q2
  · refine ⟨-2, -2, σ, τ, ?_, ?_, h', fun _ => rfl, FR.rf _ _, FR.rf _ _⟩
    · unfold f_X_check_0
      by_cases h1 : a < 0
      · rw [if_pos h1]
      · rw [if_neg h1]
        by_cases h2 : 64 < a
        · rw [if_pos h2]
        · rw [if_neg h2, if_neg (by omega)]
    · unfold f_M_check_84
      rw [m_in, Option.bind_some]
      dsimp only
      by_cases hc : 0 ≤ a ∧ a ≤ 64
      · rw [if_pos hc, if_neg (by decide), if_neg (by omega)]
      · rw [if_neg hc, if_pos rfl]
/-- class and reference alike: tape, program -/
def REL (σ τ : pS) : Prop := TR σ τ ∧ PRG σ τ
theorem TR.x {σ σ' τ τ' : pS} (h : TR σ τ) (h1 : ∀ k x, k < 84 → σ' k x = σ k x) (h2 : ∀ k x, 84 ≤ k → τ' k x = τ k x) : TR σ' τ' := by
  obtain ⟨a1, a2, a3⟩ := h
  unfold TR
  rw [h1 1 1 (by decide), h2 84 18 (by decide)]
  exact ⟨a1, a2, fun i hi => by rw [h1 2 i (by decide), h2 96 i (by decide)]; exact a3 i hi⟩
theorem REL.x {σ σ' τ τ' : pS} (h : REL σ τ) (h1 : ∀ k x, k < 84 → σ' k x = σ k x) (h2 : ∀ k x, 84 ≤ k → τ' k x = τ k x) : REL σ' τ' := ⟨h.1.x h1 h2, h.2.mv (h1 _ _ (by decide)) (h1 _ _ (by decide)) (fun k x a b => h1 _ _ (by omega)) (h2 _ _ (by decide)) (fun k x a b => h2 _ _ (by omega))⟩
theorem PRG.fr {σ σ' τ τ' : pS} {P Q : Nat → Nat → Prop} (h : PRG σ τ) (h1 : FR P σ σ') (h2 : FR Q τ τ') (hP : ∀ k x, 4 ≤ k → k ≤ 13 → ¬ P k x) (hQ : ¬ Q 84 2) (hQ2 : ∀ k x, 88 ≤ k → k ≤ 95 → ¬ Q k x) : PRG σ' τ' := h.mv (h1.get (hP _ _ (by decide) (by decide))) (h1.get (hP _ _ (by decide) (by decide))) (fun k x a b => h1.get (hP _ _ (by omega) (by omega))) (h2.get hQ) (fun k x a b => h2.get (hQ2 _ _ (by omega) (by omega)))
theorem rel_feed {σ τ : pS} (a b c d e : Int) (h : REL σ τ) : ∃ v σ' τ', f_X_feed_0 a b c d e σ = some (v, σ') ∧ f_M_feed_84 a b c d e τ = some (v, τ') ∧ REL σ' τ' := by
  obtain ⟨v, σ1, τ1, q1, q2, q3, q4, q5⟩ := feed_ls (σ := σ) (τ := τ) a b c d e h.1
  exact ⟨v, σ1, τ1, q1, q2, q3, h.2.fr q4 q5 (fun k x _ _ => by unfold PT; omega) (by unfold QT; omega) (fun k x _ _ => by unfold QT; omega)⟩
theorem rel_law {σ τ : pS} (a : Int) (h : REL σ τ) : ∃ v σ' τ', f_X_law_0 a σ = some (v, σ') ∧ f_M_law_84 a τ = some (v, τ') ∧ REL σ' τ' := by
  obtain ⟨v, σ1, τ1, q1, q2, q3, -, q4, q5⟩ := law_ls (σ := σ) (τ := τ) (a := a) h.1
  exact ⟨v, σ1, τ1, q1, q2, q3, h.2.fr q4 q5 (fun k x _ _ => by unfold PLx; omega) (by unfold QLx; omega) (fun k x _ _ => by unfold QLx; omega)⟩
theorem rel_program {σ τ : pS} (a : Int) (h : REL σ τ) : ∃ v σ' τ', f_X_program_0 a σ = some (v, σ') ∧ f_M_program_84 a τ = some (v, τ') ∧ REL σ' τ' := by
  obtain ⟨v, σ1, τ1, q1, q2, q3, q4, -⟩ := prog_ls (a := a) h.1 h.2
  exact ⟨v, σ1, τ1, q1, q2, q3, q4⟩
theorem rel_check {σ τ : pS} (a : Int) (h : REL σ τ) : ∃ v w σ' τ', f_X_check_0 a σ = some (v, σ') ∧ f_M_check_84 a τ = some (w, τ') ∧ REL σ' τ' := by
  obtain ⟨v, w, σ1, τ1, q1, q2, q3, -, q4, q5⟩ := check_ls (σ := σ) (τ := τ) (a := a) h.1
  exact ⟨v, w, σ1, τ1, q1, q2, q3, h.2.fr q4 q5 (fun k x _ _ => by unfold PT; omega) (by unfold QT; omega) (fun k x _ _ => by unfold QT; omega)⟩
theorem TR.y {σ τ τ' : pS} (h : TR σ τ) (h2 : ∀ k x, k ≠ 143 → τ' k x = τ k x) : TR σ τ' := by
  obtain ⟨a1, a2, a3⟩ := h
  unfold TR
  rw [h2 84 18 (by decide)]
  exact ⟨a1, a2, fun i hi => by rw [h2 96 i (by decide)]; exact a3 i hi⟩
theorem rel_deep {σ τ : pS} (h : REL σ τ) : ∃ v τ', f_X_deep_0 σ = some (v, σ) ∧ f_M_deep_84 τ = some (v, τ') ∧ REL σ τ' := by
  obtain ⟨v, τ1, q1, q2, q3⟩ := deep_ls h.2
  exact ⟨v, τ1, q1, q2, h.1.y q3 , h.2.mv rfl rfl (fun _ _ _ _ => rfl) (q3 _ _ (by decide)) (fun k x a b => q3 _ _ (by omega))⟩
