theorem tp_app {K : Ks} {op x : Int} : tp (K ++ [(op, x)]) = op := tp_s K (op, x)
theorem jk_none (op : Int) (K : Ks) : K ++ jk op none = K := List.append_nil K
theorem m_cond {T : Nat → Int} {n : Int} : ∀ (d w : Nat) (o p : Int) (c : Cd) (K : Ks) (τ : pS) (s : Int), 0 ≤ s → (c.length : Int) + s ≤ p → (K.length : Int) ≤ p → 1 ≤ K.length → 0 ≤ o → o ≤ 6 → 6 < tp K → 4 * (n - p) + rnk w < d →
    (w = 2 → ST τ T n p c K o → ∀ fi : Nat, n - p < fi → tEnd T n o K τ (f_M_readsCondition_84_p40 fi τ) (sCd T n d w o p c) (p + 1) s) ∧
    (w ≤ 1 → tp K ≠ 10 → tp K ≠ 11 → (w = 0 → tp K ≠ 12) → ST τ T n p c K o → ∀ fi : Nat, n - p < fi → dEnd T n o K w τ (f_M_readsCondition_84_p40 fi τ) (sCd T n d w o p c) (p + 1) s) ∧
    (w = 3 → tp K ≠ 10 → tp K ≠ 11 → tp K ≠ 12 → ∀ (fk fu : Nat) (cm : Cd) (O N : Option Nat), ST τ T n p cm (K ++ jk 12 O ++ jk 11 N) o → mk 124 O (pch 38 N cm) → mk 38 N cm → c = pch 124 O (pch 38 N cm) → hd T n p ≠ 38 → n - p < fk → n - p < fu → dEnd T n o K 3 τ (mBc fk fu τ) (sCd T n d w o p c) p s) ∧
    (w = 4 → tp K ≠ 10 → tp K ≠ 11 → ∀ (fk fu : Nat) (cm : Cd) (N : Option Nat), ST τ T n p cm (K ++ jk 11 N) o → mk 38 N cm → c = pch 38 N cm → n - p < fk → n - p < fu → dEnd T n o K 4 τ (mBc fk fu τ) (sCd T n d w o p c) p s) := by
  intro d
  induction d with
  | zero =>
    intro w o p c K τ s hs hl hk hk1 ho1 ho2 htp hd9
    have hrk : 1 ≤ rnk w := by unfold rnk; split <;> decide
    refine ⟨fun _ h => ?_, fun _ _ _ _ h => ?_, fun _ _ _ _ fk fu cm O N h => ?_, fun _ _ _ fk fu cm N h => ?_⟩
    all_goals
      have := h.1.2.2.1
      omega
  | succ d ih =>
    intro w o p c K τ s hs hl hk hk1 ho1 ho2 htp hd9
    match w, hd9 with
    | 0, hd9 =>
      refine ⟨fun h => absurd h (by decide), fun _ t10 t11 t12 h fi hfi => ?_, fun h => absurd h (by decide), fun h => absurd h (by decide)⟩
      have hd9 : 4 * (n - p) + 3 < ((d + 1 : Nat) : Int) := hd9
      have h1 := (ih 1 o p c K τ s hs hl hk hk1 ho1 ho2 htp (by show 4 * (n - p) + 2 < _; omega)).2.1 (by decide) t10 t11 (fun e => absurd e (by decide)) h fi hfi
      rw [sCd_0]
      cases hr : sCd T n d 1 o p c with
      | inr f =>
        rw [hr] at h1
        exact h1
      | inl q =>
        rw [hr] at h1
        obtain ⟨fk, fu, τ1, cm, O, N, a1, a2, a3, a4, ⟨a5, a5'⟩, a6, ⟨a7, a8, a9⟩, a10, a11, a12⟩ := h1
        have hb1 := a4.1.2.2.1
        have h2 := (ih 3 o q.1 q.2 K τ1 s hs a11 (by omega) hk1 ho1 ho2 htp (by show 4 * (n - q.1) + 1 < _; omega)).2.2.1 rfl t10 t11 (t12 rfl) fk fu cm O N a4 a5 a5' a6 a8 a2 a3
        exact h2.up a1 a10 (by omega) (Or.inl ⟨rfl, rfl⟩)
    | 1, hd9 =>
      refine ⟨fun h => absurd h (by decide), fun _ t10 t11 _ h fi hfi => ?_, fun h => absurd h (by decide), fun h => absurd h (by decide)⟩
      have hd9 : 4 * (n - p) + 2 < ((d + 1 : Nat) : Int) := hd9
      have h1 := (ih 2 o p c K τ s hs hl hk hk1 ho1 ho2 htp (by show 4 * (n - p) + 1 < _; omega)).1 rfl h fi hfi
      rw [sCd_1]
      cases hr : sCd T n d 2 o p c with
      | inr f =>
        rw [hr] at h1
        exact h1
      | inl q =>
        rw [hr] at h1
        obtain ⟨fk, fe, fu, τ1, a1, a2, a3, a4, a5, a6, a7, a8⟩ := h1
        have hb1 := a5.1.2.2.1
        rw [mE_0 a5 (by omega) t10 a3] at a1
        have h2 := (ih 4 o q.1 q.2 K τ1 s hs a7 (by omega) hk1 ho1 ho2 htp (by show 4 * (n - q.1) + 1 < _; omega)).2.2.2 rfl t10 t11 fk fu q.2 none (by rw [jk_none]; exact a5) (fun i e => by cases e) rfl a2 a4
        exact h2.up a1 a6 (by omega) (Or.inr (Or.inl ⟨rfl, rfl⟩))
    | 2, hd9 =>
      refine ⟨fun _ h fi hfi => ?_, fun h => absurd h (by decide), fun h => absurd h (by decide), fun h => absurd h (by decide)⟩
      have hd9 : 4 * (n - p) + 1 < ((d + 1 : Nat) : Int) := hd9
      have hPb := h.1.2.2.1
      obtain ⟨fi, rfl⟩ : ∃ k, fi = k + 1 := ⟨fi - 1, by omega⟩
      rw [sCd_2, f_M_readsCondition_84_p40, m_here h.1, Option.bind_some]
      dsimp only
      by_cases h33 : hd T n p = 33
      · have hp : p < n := hd_in (T := T) (by omega)
        rw [if_pos h33, if_pos h33]
        unfold f_M_readsCondition_84_p58
        rw [m_here h.1, Option.bind_some]
        dsimp only
        rw [if_pos h33]
        unfold f_M_readsCondition_84_p75
        have hop := m_opn h hp (by omega) ⟨ho1, ho2⟩ (a := 10) (by decide)
        by_cases ho : 6 ≤ o
        · obtain ⟨τ1, a1, b1, c1⟩ := hop.1 (by omega)
          rw [if_pos ho, a1, Option.bind_some]
          dsimp only
          rw [if_pos rfl]
          exact ⟨τ1, rfl, b1, c1⟩
        · obtain ⟨τ1, a1, b1, c1⟩ := hop.2 (by omega)
          rw [if_neg ho, a1, Option.bind_some]
          dsimp only
          rw [if_neg (by decide)]
          have hKl : ((K ++ [((10 : Int), (0 : Int))]).length : Int) = (K.length : Int) + 1 := by rw [List.length_append]; simp
          have h1 := (ih 2 (o + 1) (p + 1) c (K ++ [(10, 0)]) τ1 (s + 1) (by omega) (by omega) (by omega) (by omega) (by omega) (by omega) (by rw [tp_app]; decide) (by show 4 * (n - (p + 1)) + 1 < _; omega)).1 rfl b1 fi (by omega)
          cases hr2 : sCd T n d 2 (o + 1) (p + 1) c with
          | inr f =>
            rw [hr2] at h1
            obtain ⟨τ2, a2, b2, c2⟩ := h1
            exact ⟨τ2, a2, b2, c1.tr c2⟩
          | inl q =>
            rw [hr2] at h1
            obtain ⟨fk, fe, fu, τ2, a2, a3, a4, a5, a6, a7, a8, a9⟩ := h1
            have hb1 := a6.1.2.2.1
            obtain ⟨k, rfl⟩ : ∃ k, fe = k + 1 := ⟨fe - 1, by omega⟩
            obtain ⟨τ3, d3, e3, f3⟩ := m_e1 (fu := k) a6 (by omega) (by omega) (by omega)
            rw [show o + 1 - 1 = o by omega] at e3
            refine ⟨fk, k, fu, τ3, ?_, a3, by omega, a5, e3, (c1.tr a7).tr f3, by rw [List.length_append]; simp; omega, by dsimp only; omega⟩
            rw [a2]
            unfold mE
            rw [d3]
      · rw [if_neg h33, if_neg h33, m_here h.1, Option.bind_some]
        dsimp only
        by_cases h40 : hd T n p = 40
        · have hp : p < n := hd_in (T := T) (by omega)
          rw [if_pos h40, if_pos h40]
          unfold f_M_readsCondition_84_p58
          rw [m_here h.1, Option.bind_some]
          dsimp only
          rw [if_neg h33]
          unfold f_M_readsCondition_84_p75
          have hop := m_opn h hp (by omega) ⟨ho1, ho2⟩ (a := 13) (by decide)
          by_cases ho : 6 ≤ o
          · obtain ⟨τ1, a1, b1, c1⟩ := hop.1 (by omega)
            rw [if_pos ho, a1, Option.bind_some]
            dsimp only
            rw [if_pos rfl]
            exact ⟨τ1, rfl, b1, c1⟩
          · obtain ⟨τ1, a1, b1, c1⟩ := hop.2 (by omega)
            rw [if_neg ho, a1, Option.bind_some]
            dsimp only
            rw [if_neg (by decide)]
            have hKl : ((K ++ [((13 : Int), (0 : Int))]).length : Int) = (K.length : Int) + 1 := by rw [List.length_append]; simp
            have h1 := (ih 0 (o + 1) (p + 1) c (K ++ [(13, 0)]) τ1 s hs (by omega) (by omega) (by omega) (by omega) (by omega) (by rw [tp_app]; decide) (by show 4 * (n - (p + 1)) + 3 < _; omega)).2.1 (by decide) (by rw [tp_app]; decide) (by rw [tp_app]; decide) (fun _ => by rw [tp_app]; decide) b1 fi (by omega)
            cases hr2 : sCd T n d 0 (o + 1) (p + 1) c with
            | inr f =>
              rw [hr2] at h1
              obtain ⟨τ2, a2, b2, c2⟩ := h1
              exact ⟨τ2, a2, b2, c1.tr c2⟩
            | inl q =>
              rw [hr2] at h1
              obtain ⟨fk, fu, τ2, cm, O, N, a1, a2, a3, a4, ⟨a5, a5'⟩, a6, ⟨a7, a8, a9⟩, a10, a11, a12⟩ := h1
              have hb1 := a4.1.2.2.1
              have hcm : cm.length = q.2.length := by rw [a6, pch_len, pch_len]
              obtain ⟨k, rfl⟩ : ∃ k, fu = k + 1 := ⟨fu - 1, by omega⟩
              rw [a1]
              unfold mBc
              rw [f_M_readsCondition_84_p92, m_here a4.1, Option.bind_some]
              dsimp only
              by_cases h41 : hd T n q.1 = 41
              · have hq : q.1 < n := hd_in (T := T) (by omega)
                rw [if_pos h41, if_pos h41]
                obtain ⟨τ3, d3, e3, f3⟩ := la_all a4 a5 a5' (by omega) (by omega) (by rw [tp_app]; decide) (by rw [tp_app]; decide)
                rw [← a6] at e3
                have hlast := e3.2.2.1.last
                rw [d3, Option.bind_some]
                dsimp only
                rw [if_neg (show ¬ pw (τ3 84 25 - 1) = 0 by rw [hlast.1, pw_id (by omega) (by omega)]; omega), hlast.1, e3.2.2.2, e3.1.1, pw_id (z := (K.length : Int) + 1 - 1) (by omega) (by omega), pw_id (z := o + 1 - 1) (by omega) (by omega), pw_id (z := q.1 + 1) (by omega) (by omega)]
                refine ⟨fk, 4096, k, _, rfl, by dsimp only; omega, by omega, by dsimp only; omega, ?_, ?_, by dsimp only; omega, by dsimp only; omega⟩
                · refine ⟨?_, ⟨?_, fun i r hr => ?_⟩, ?_, ?_⟩
                  · exact e3.1.at (pU_s _ _ _ _) (by simp [pU]) (fun i => by simp [pU]) (by omega) (by dsimp only; omega)
                  · simp [pU, e3.2.1.1]
                  · rw [show ∀ x y z : Int, pU (pU (pU τ3 84 25 x) 84 23 y) 84 19 z 97 i = τ3 97 i from fun x y z => by simp [pU]]
                    exact e3.2.1.2 i r hr
                  · exact e3.2.2.1.pop (by rw [hlast.1]; simp [pU]) (fun i => by simp [pU])
                  · simp [pU]
                · exact (((c1.tr a10).tr f3).tr (FR.u (Or.inl ⟨rfl, by decide⟩))).tr ((FR.u (Or.inl ⟨rfl, by decide⟩)).tr (FR.u (Or.inl ⟨rfl, by decide⟩)))
              · rw [if_neg h41, if_neg h41, m_here a4.1, Option.bind_some]
                dsimp only
                rw [if_neg a8, m_here a4.1, Option.bind_some]
                dsimp only
                rw [if_neg (a9 (Or.inl rfl)), a4.1.1, m_wrong (by omega) (by omega), Option.bind_some]
                dsimp only
                rw [if_pos (by decide)]
                exact ⟨_, rfl, pU_s _ _ _ _, (c1.tr a10).tr (FR.u (Or.inl ⟨rfl, by decide⟩))⟩
        · rw [if_neg h40, if_neg h40]
          exact m_cmp h (Or.inr htp) hs hl hk ho1 ho2 hfi
    | 3, hd9 =>
      refine ⟨fun h => absurd h (by decide), fun h => absurd h (by decide), fun _ t10 t11 t12 fk fu cm O N h hO hN hc h38 hfk hfu => ?_, fun h => absurd h (by decide)⟩
      have hd9 : 4 * (n - p) + 1 < ((d + 1 : Nat) : Int) := hd9
      have hPb := h.1.2.2.1
      have hcm : cm.length = c.length := by rw [hc, pch_len, pch_len]
      rw [sCd_3]
      by_cases hc9 : hd T n p = 124
      · have hp : p < n := hd_in (T := T) (by omega)
        obtain ⟨k, rfl⟩ : ∃ k, fu = k + 1 := ⟨fu - 1, by omega⟩
        rw [if_pos hc9]
        unfold mBc
        rw [f_M_readsCondition_84_p92, m_here h.1, Option.bind_some]
        dsimp only
        rw [if_neg (by omega), m_here h.1, Option.bind_some]
        dsimp only
        rw [if_neg h38, m_here h.1, Option.bind_some]
        dsimp only
        rw [if_pos hc9]
        unfold f_M_readsCondition_84_p180
        rw [m_here h.1, Option.bind_some]
        dsimp only
        rw [if_pos hc9]
        unfold f_M_readsCondition_84_p195
        obtain ⟨τ1, a1, b1, c1⟩ := la_all h hO hN (by omega) (by omega) t11 t12
        rw [← hc] at b1
        rw [a1, Option.bind_some]
        dsimp only
        rw [m_here b1.1, Option.bind_some]
        dsimp only
        rw [if_neg h38]
        unfold f_M_readsCondition_84_p215
        obtain ⟨τ2, a2, b2, c2⟩ := m_jmp b1 hp (by omega) (by omega) (s := 124) (op := 12) (by decide)
        rw [a2, Option.bind_some]
        dsimp only
        have hKl : ((K ++ [((12 : Int), (c.length : Int))]).length : Int) = (K.length : Int) + 1 := by rw [List.length_append]; simp
        have h1 := (ih 1 o (p + 1) (c ++ [(124, 0)]) (K ++ [(12, (c.length : Int))]) τ2 s hs (by rw [List.length_append]; simp; omega) (by omega) (by omega) ho1 ho2 (by rw [tp_app]; decide) (by show 4 * (n - (p + 1)) + 2 < _; omega)).2.1 (by decide) (by rw [tp_app]; decide) (by rw [tp_app]; decide) (fun e => absurd e (by decide)) b2 fk (by omega)
        cases hr2 : sCd T n d 1 o (p + 1) (c ++ [(124, 0)]) with
        | inr f =>
          rw [hr2] at h1
          obtain ⟨τ3, a3, b3, c3⟩ := h1
          exact ⟨τ3, a3, b3, (c1.tr c2).tr c3⟩
        | inl q =>
          rw [hr2] at h1
          obtain ⟨fk1, fu1, τ3, cm3, O3, N3, e1, e2, e3, e4, ⟨e5, e5'⟩, e6, ⟨e7, e8, e9⟩, e10, e11, e12⟩ := h1
          obtain rfl := e7 (Or.inl rfl)
          rw [jk_none] at e4
          have e6 : q.2 = pch 38 N3 cm3 := e6
          have hb1 := e4.1.2.2.1
          obtain ⟨hm, _⟩ := (sCd_pre d 1 _ _ _ q (by decide) hr2).mark
          have h2 := (ih 3 o q.1 (q.2.set c.length (124, (q.2.length : Int))) K τ3 s hs (by rw [List.length_set]; exact e11) (by omega) hk1 ho1 ho2 htp (by show 4 * (n - q.1) + 1 < _; omega)).2.2.1 rfl t10 t11 t12 fk1 fu1 cm3 (some c.length) N3 e4 (fun i hi => by cases hi; exact ⟨0, by rw [← e6]; exact hm⟩) e5' (by rw [e6]; rfl) e8 e2 e3
          exact h2.up e1 ((c1.tr c2).tr e10) (by omega) (Or.inr (Or.inr rfl))
      · rw [if_neg hc9]
        exact ⟨fk, fu, τ, cm, O, N, rfl, hfk, hfu, h, ⟨hO, hN⟩, hc, ⟨fun e => absurd e (by decide), h38, fun _ => hc9⟩, FR.rf _ _, hl, Int.le_refl _⟩
    | 4, hd9 =>
      refine ⟨fun h => absurd h (by decide), fun h => absurd h (by decide), fun h => absurd h (by decide), fun _ t10 t11 fk fu cm N h hN hc hfk hfu => ?_⟩
      have hd9 : 4 * (n - p) + 1 < ((d + 1 : Nat) : Int) := hd9
      have hPb := h.1.2.2.1
      have hcm : cm.length = c.length := by rw [hc, pch_len]
      rw [sCd_4]
      by_cases hc9 : hd T n p = 38
      · have hp : p < n := hd_in (T := T) (by omega)
        obtain ⟨k, rfl⟩ : ∃ k, fu = k + 1 := ⟨fu - 1, by omega⟩
        rw [if_pos hc9]
        unfold mBc
        rw [f_M_readsCondition_84_p92, m_here h.1, Option.bind_some]
        dsimp only
        rw [if_neg (by omega), m_here h.1, Option.bind_some]
        dsimp only
        rw [if_pos hc9]
        unfold f_M_readsCondition_84_p180
        rw [m_here h.1, Option.bind_some]
        dsimp only
        rw [if_neg (by omega)]
        unfold f_M_readsCondition_84_p195
        obtain ⟨τ1, a1, b1, c1⟩ := la_and h hN (by omega) (by omega) t11
        rw [← hc] at b1
        rw [a1, Option.bind_some]
        dsimp only
        rw [m_here b1.1, Option.bind_some]
        dsimp only
        rw [if_pos hc9]
        unfold f_M_readsCondition_84_p215
        obtain ⟨τ2, a2, b2, c2⟩ := m_jmp b1 hp (by omega) (by omega) (s := 38) (op := 11) (by decide)
        rw [a2, Option.bind_some]
        dsimp only
        have hKl : ((K ++ [((11 : Int), (c.length : Int))]).length : Int) = (K.length : Int) + 1 := by rw [List.length_append]; simp
        have h1 := (ih 2 o (p + 1) (c ++ [(38, 0)]) (K ++ [(11, (c.length : Int))]) τ2 s hs (by rw [List.length_append]; simp; omega) (by omega) (by omega) ho1 ho2 (by rw [tp_app]; decide) (by show 4 * (n - (p + 1)) + 1 < _; omega)).1 rfl b2 fk (by omega)
        cases hr2 : sCd T n d 2 o (p + 1) (c ++ [(38, 0)]) with
        | inr f =>
          rw [hr2] at h1
          obtain ⟨τ3, a3, b3, c3⟩ := h1
          exact ⟨τ3, a3, b3, (c1.tr c2).tr c3⟩
        | inl q =>
          rw [hr2] at h1
          obtain ⟨fk1, fe1, fu1, τ3, e1, e2, e3, e4, e5, e6, e7, e8⟩ := h1
          have hb1 := e5.1.2.2.1
          rw [mE_0 e5 (by omega) (by rw [tp_app]; decide) e3] at e1
          obtain ⟨hm, _⟩ := (sCd_pre d 2 _ _ _ q (by decide) hr2).mark
          have h2 := (ih 4 o q.1 (q.2.set c.length (38, (q.2.length : Int))) K τ3 s hs (by rw [List.length_set]; exact e7) (by omega) hk1 ho1 ho2 htp (by show 4 * (n - q.1) + 1 < _; omega)).2.2.2 rfl t10 t11 fk1 fu1 q.2 (some c.length) e5 (fun i hi => by cases hi; exact ⟨0, hm⟩) rfl e2 e4
          exact h2.up e1 ((c1.tr c2).tr e6) (by omega) (Or.inr (Or.inr rfl))
      · rw [if_neg hc9]
        exact ⟨fk, fu, τ, cm, none, N, rfl, hfk, hfu, by rw [jk_none]; exact h, ⟨(fun i e => by cases e), hN⟩, hc, ⟨fun _ => rfl, hc9, fun e => by omega⟩, FR.rf _ _, hl, Int.le_refl _⟩
    | w + 5, _ => exact ⟨fun h => by omega, fun h => by omega, fun h => by omega, fun h => by omega⟩
/-- a condition in its brackets -/
def sCo (T : Nat → Int) (n p : Int) (c : Cd) : (Int × Cd) ⊕ Int := if hd T n p = 40 then (match sCd T n 1000 0 1 (p + 1) c with
    | .inr f => .inr f
    | .inl q => if hd T n q.1 = 41 then .inl (q.1 + 1, q.2) else .inr (-1000 * 1 - q.1)) else .inr (-1000 * 1 - p)
theorem c_rcond {T : Nat → Int} {n : Int} (hT : TB T n) {p : Int} {c : Cd} {σ : pS} {s : Int} (hP : TP σ T n p) (hC : CL σ c) (hs : 0 ≤ s) (hl : (c.length : Int) + s ≤ p) : match sCo T n p c with
    | .inr f => ∃ σ', ((f_Tape_accept_1 40 σ).bind fun q9 => (if q9.1 = 0 then (some (0, q9.2)) else ((rdC 40 0 1 q9.2).bind fun q11 => (if q11.1 = 0 then (some (0, q11.2)) else (f_Tape_accept_1 41 q11.2))))) = some (0, σ') ∧ σ' 1 4 = f ∧ FR PL σ σ'
    | .inl q => ∃ σ', ((f_Tape_accept_1 40 σ).bind fun q9 => (if q9.1 = 0 then (some (0, q9.2)) else ((rdC 40 0 1 q9.2).bind fun q11 => (if q11.1 = 0 then (some (0, q11.2)) else (f_Tape_accept_1 41 q11.2))))) = some (1, σ') ∧ TP σ' T n q.1 ∧ CL σ' q.2 ∧ FR PL σ σ' ∧ (q.2.length : Int) + s ≤ q.1 ∧ p + 1 ≤ q.1 := by
  have hPb := hP.2.2.1
  unfold sCo
  by_cases h40 : hd T n p = 40
  · have hp : p < n := hd_in (T := T) (by omega)
    obtain ⟨σ1, a1, b1, c1⟩ := c_acc1 hP h40 (by decide)
    rw [if_pos h40, a1, Option.bind_some]
    dsimp only
    rw [if_neg (by decide)]
    have h1 := (c_cond hT 1000 0 1 (p + 1) c σ1 s (by decide) b1 (hC.mv c1) hs (by omega) (by decide) (by decide) (by show 4 * (n - (p + 1)) + 3 < _; omega)).1 (by decide) 40 (by decide)
    cases hr : sCd T n 1000 0 1 (p + 1) c with
    | inr f =>
      rw [hr] at h1
      obtain ⟨σ2, a2, b2, c2⟩ := h1
      rw [a2, Option.bind_some]
      exact ⟨σ2, rfl, b2, c1.pl.tr c2⟩
    | inl q =>
      rw [hr] at h1
      obtain ⟨σ2, a2, b2, c2, d2, e2, f2⟩ := h1
      have hPb2 := b2.2.2.1
      rw [a2, Option.bind_some]
      dsimp only
      by_cases h41 : hd T n q.1 = 41
      · obtain ⟨σ3, a3, b3, c3⟩ := c_acc1 b2 h41 (by decide)
        rw [if_pos h41, if_neg (by decide), a3]
        exact ⟨σ3, rfl, b3, c2.mv c3, (c1.pl.tr d2).tr c3.pl, by dsimp only; omega, by dsimp only; omega⟩
      · obtain ⟨σ3, a3, b3, c3⟩ := c_acc0 b2 h41
        rw [if_neg h41, if_neg (by decide), a3]
        exact ⟨σ3, rfl, b3, (c1.pl.tr d2).tr c3.pl⟩
  · obtain ⟨σ1, a1, b1, c1⟩ := c_acc0 hP h40
    rw [if_neg h40, a1, Option.bind_some]
    exact ⟨σ1, rfl, b1, c1.pl⟩
theorem m_rcond {T : Nat → Int} {n o p : Int} {c : Cd} {K : Ks} {τ : pS} {s : Int} (h : ST τ T n p c K o) (hs : 0 ≤ s) (hl : (c.length : Int) + s ≤ p) : match sCo T n p c with
    | .inr f => ∃ τ', f_M_readsCondition_84 τ = some (0, τ') ∧ τ' 84 21 = f ∧ FR QL τ τ'
    | .inl q => ∃ τ' K' o', f_M_readsCondition_84 τ = some (1, τ') ∧ ST τ' T n q.1 q.2 K' o' ∧ FR QL τ τ' ∧ (q.2.length : Int) + s ≤ q.1 ∧ p + 1 ≤ q.1 := by
  have hPb := h.1.2.2.1
  unfold sCo f_M_readsCondition_84
  rw [m_here h.1, Option.bind_some]
  dsimp only
  by_cases h40 : hd T n p = 40
  · have hp : p < n := hd_in (T := T) (by omega)
    have h0 : ST (pU (pU τ 84 23 0) 84 25 0) T n p c [] 0 := by
      obtain ⟨h1, ⟨h2, h3⟩, hK, h6⟩ := h
      refine ⟨?_, ⟨?_, fun i q hq => ?_⟩, ⟨?_, fun i q hq => ?_⟩, ?_⟩
      · exact h1.at (by simp [pU, h1.1]) (by simp [pU]) (fun i => by simp [pU]) hPb.1 hPb.2.1
      · simp [pU, h2]
      · rw [show pU (pU τ 84 23 0) 84 25 0 97 i = τ 97 i by simp [pU]]
        exact h3 i q hq
      · simp [pU]
      · simp at hq
      · simp [pU]
    have f0 : FR QL τ (pU (pU τ 84 23 0) 84 25 0) := (FR.u (Or.inl ⟨rfl, by decide⟩)).tr (FR.u (Or.inl ⟨rfl, by decide⟩))
    obtain ⟨τ1, a1, b1, c1⟩ := (m_opn h0 hp (by decide) (by decide) (a := 13) (by decide)).2 (by decide)
    rw [if_pos h40, if_pos h40, a1, Option.bind_some]
    dsimp only
    rw [if_neg (by decide)]
    have b1 : ST τ1 T n (p + 1) c [(13, 0)] 1 := b1
    have htp : tp [((13 : Int), (0 : Int))] = 13 := rfl
    have h1 := (m_cond 1000 0 1 (p + 1) c [(13, 0)] τ1 s hs (by omega) (by show (1 : Int) ≤ p + 1; omega) (by decide) (by decide) (by decide) (by rw [htp]; decide) (by show 4 * (n - (p + 1)) + 3 < _; omega)).2.1 (by decide) (by rw [htp]; decide) (by rw [htp]; decide) (fun _ => by rw [htp]; decide) b1 4096 (by omega)
    cases hr : sCd T n 1000 0 1 (p + 1) c with
    | inr f =>
      rw [hr] at h1
      obtain ⟨τ2, a2, b2, c2⟩ := h1
      exact ⟨τ2, a2, b2, (f0.tr c1).tr c2⟩
    | inl q =>
      rw [hr] at h1
      obtain ⟨fk, fu, τ2, cm, O, N, a1, a2, a3, a4, ⟨a5, a5'⟩, a6, ⟨a7, a8, a9⟩, a10, a11, a12⟩ := h1
      have hb1 := a4.1.2.2.1
      have hcm : cm.length = q.2.length := by rw [a6, pch_len, pch_len]
      obtain ⟨k, rfl⟩ : ∃ k, fu = k + 1 := ⟨fu - 1, by omega⟩
      rw [a1]
      unfold mBc
      rw [f_M_readsCondition_84_p92, m_here a4.1, Option.bind_some]
      dsimp only
      by_cases h41 : hd T n q.1 = 41
      · have hq : q.1 < n := hd_in (T := T) (by omega)
        rw [if_pos h41, if_pos h41]
        obtain ⟨τ3, d3, e3, f3⟩ := la_all a4 a5 a5' (by decide) (by omega) (by rw [htp]; decide) (by rw [htp]; decide)
        rw [← a6] at e3
        have hl25 : τ3 84 25 = 1 := e3.2.2.1.1
        rw [d3, Option.bind_some]
        dsimp only
        have e9 : pw (τ3 84 25 - 1) = 0 := by rw [hl25]; decide
        rw [if_pos e9, e9, e3.1.1, e3.2.2.2, pw_id (z := q.1 + 1) (by omega) (by omega)]
        refine ⟨_, [], 0, rfl, ⟨?_, ⟨?_, fun i r hr => ?_⟩, ⟨?_, fun i r hr => ?_⟩, ?_⟩, ?_, by omega, by omega⟩
        · exact e3.1.at (pU_s _ _ _ _) (by simp [pU]) (fun i => by simp [pU]) (by omega) (by omega)
        · simp [pU, e3.2.1.1]
        · rw [show ∀ x y z : Int, pU (pU (pU τ3 84 25 x) 84 23 y) 84 19 z 97 i = τ3 97 i from fun x y z => by simp [pU]]
          exact e3.2.1.2 i r hr
        · simp [pU]
        · simp at hr
        · simp [pU]
          decide
        · exact ((((f0.tr c1).tr a10).tr f3).tr (FR.u (Or.inl ⟨rfl, by decide⟩))).tr ((FR.u (Or.inl ⟨rfl, by decide⟩)).tr (FR.u (Or.inl ⟨rfl, by decide⟩)))
      · rw [if_neg h41, if_neg h41, m_here a4.1, Option.bind_some]
        dsimp only
        rw [if_neg a8, m_here a4.1, Option.bind_some]
        dsimp only
        rw [if_neg (a9 (Or.inl rfl)), a4.1.1, m_wrong (by omega) (by omega), Option.bind_some]
        dsimp only
        rw [if_pos (by decide)]
        exact ⟨_, rfl, pU_s _ _ _ _, ((f0.tr c1).tr a10).tr (FR.u (Or.inl ⟨rfl, by decide⟩))⟩
  · rw [if_neg h40, if_neg h40, h.1.1, m_wrong (by omega) (by omega), Option.bind_some]
    dsimp only
    rw [if_pos (by decide)]
    exact ⟨_, rfl, pU_s _ _ _ _, FR.u (Or.inl ⟨rfl, by decide⟩)⟩
/-- a rule: its letter, where its condition begins, the place behind it, the codes -/
def sRu (T : Nat → Int) (n i p : Int) (c : Cd) : (Int × Int × Int × Cd) ⊕ Int := if hd T n p = 100 ∨ hd T n p = 120 then (if 16 ≤ i then .inr (-1000 * 4 - p) else (match (if hd T n p = 100 then sXp T n 1000 0 0 (p + 1) c else .inl (p + 1, c)) with
    | .inr f => .inr f
    | .inl q => (match sCo T n q.1 q.2 with
      | .inr f => .inr f
      | .inl u => .inl (hd T n p, (q.2.length : Int), u.1, u.2)))) else .inr (-1000 * 1 - p)
def PRu (i : Nat) (k x : Nat) : Prop := PL k x ∨ (k = 58 ∧ x = i) ∨ (k = 59 ∧ (x = i ∨ x = i + 1)) ∨ (k = 60 ∧ x = i)
theorem CL.u {σ : pS} {c : Cd} (h : CL σ c) {k : Nat} (i : Nat) (v : Int) (h1 : k ≠ 57) (h2 : k ≠ 61) (h3 : k ≠ 62) : CL (pU σ k i v) c := ⟨(pU_c _ _ _ _ (by omega)).trans h.1, fun j q hq => by rw [pU_c _ _ _ _ (by omega), pU_c _ _ _ _ (by omega)]; exact h.2 j q hq⟩
theorem FR.ru {i : Nat} {σ σ' : pS} (h : FR PL σ σ') : FR (PRu i) σ σ' := h.mono (fun _ _ h => Or.inl h)
theorem c_p73 {T : Nat → Int} {n : Int} (hT : TB T n) {p : Int} {c : Cd} {σ : pS} {i : Nat} (hi : i < 16) (hP : TP σ T n p) (hC : CL σ c) (hl : (c.length : Int) ≤ p) : match sCo T n p c with
    | .inr f => ∃ σ', f_Law_readRule_57_1_p73 (i : Int) σ = some (0, σ') ∧ σ' 1 4 = f ∧ FR (PRu i) σ σ'
    | .inl u => ∃ σ', f_Law_readRule_57_1_p73 (i : Int) σ = some (1, σ') ∧ TP σ' T n u.1 ∧ CL σ' u.2 ∧ (σ' 58 i = σ 58 i ∧ σ' 59 i = σ 59 i ∧ σ' 60 i = (c.length : Int) ∧ σ' 59 (i + 1) = (u.2.length : Int)) ∧ FR (PRu i) σ σ' ∧ (u.2.length : Int) ≤ u.1 ∧ p + 1 ≤ u.1 := by
  have h1 := c_rcond hT (s := 0) (σ := pU σ 60 i (σ 57 8)) (hP.u _ _ (by decide) (by decide)) (hC.u _ _ (by decide) (by decide) (by decide)) (Int.le_refl _) (by omega)
  have e : f_Law_readRule_57_1_p73 (i : Int) σ = (((f_Tape_accept_1 40 (pU σ 60 i (σ 57 8))).bind fun q9 => (if q9.1 = 0 then (some (0, q9.2)) else ((rdC 40 0 1 q9.2).bind fun q11 => (if q11.1 = 0 then (some (0, q11.2)) else (f_Tape_accept_1 41 q11.2))))).bind fun q => if q.1 = 0 then some (0, q.2) else some (1, pU q.2 59 (i + 1) (q.2 57 8))) := by
    unfold f_Law_readRule_57_1_p73
    rw [if_pos (by omega), Int.toNat_natCast]
    cases h2 : f_Tape_accept_1 40 (pU σ 60 i (σ 57 8)) with
    | none => simp
    | some q9 =>
      simp only [Option.bind_some]
      by_cases h3 : q9.1 = 0
      · rw [if_pos h3, if_pos h3, Option.bind_some, if_pos rfl]
      · rw [if_neg h3, if_neg h3]
        cases h4 : rdC 40 0 1 q9.2 with
        | none => simp
        | some q11 =>
          simp only [Option.bind_some]
          by_cases h5 : q11.1 = 0
          · rw [if_pos h5, if_pos h5, Option.bind_some, if_pos rfl]
          · rw [if_neg h5, if_neg h5]
            cases h6 : f_Tape_accept_1 41 q11.2 with
            | none => simp
            | some q13 =>
              simp only [Option.bind_some]
              by_cases h7 : q13.1 = 0
              · rw [if_pos h7, if_pos h7]
              · rw [if_neg h7, if_neg h7, pw_id (by omega) (by omega), if_pos (by omega), show ((i : Int) + 1).toNat = i + 1 by omega]
  have f0 : FR (PRu i) σ (pU σ 60 i (σ 57 8)) := FR.u (Or.inr (Or.inr (Or.inr ⟨rfl, rfl⟩)))
  rw [e]
  cases hr : sCo T n p c with
  | inr f =>
    rw [hr] at h1
    obtain ⟨σ1, a1, b1, c1⟩ := h1
    rw [a1, Option.bind_some]
    exact ⟨σ1, rfl, b1, f0.tr c1.ru⟩
  | inl u =>
    rw [hr] at h1
    obtain ⟨σ1, a1, b1, c1, d1, e1, f1⟩ := h1
    rw [a1, Option.bind_some]
    dsimp only
    rw [if_neg (by decide)]
    refine ⟨_, rfl, b1.u _ _ (by decide) (by decide), c1.u _ _ (by decide) (by decide) (by decide), ⟨?_, ?_, ?_, ?_⟩, (f0.tr d1.ru).tr (FR.u (Or.inr (Or.inr (Or.inl ⟨rfl, Or.inr rfl⟩)))), by omega, f1⟩
    · rw [pU_c _ _ _ _ (by decide), d1.get (by unfold PL; omega), pU_c _ _ _ _ (by decide)]
    · rw [pU_i _ _ _ _ (by omega), d1.get (by unfold PL; omega), pU_c _ _ _ _ (by decide)]
    · rw [pU_c _ _ _ _ (by decide), d1.get (by unfold PL; omega), pU_s]
      exact hC.1
    · rw [pU_s]
      exact c1.1
def rEnd (T : Nat → Int) (n p : Int) (c : Cd) (i : Nat) (σ : pS) (F : Option (Int × pS)) (r : (Int × Int × Int × Cd) ⊕ Int) : Prop := match r with
  | .inr f => ∃ σ', F = some (0, σ') ∧ σ' 1 4 = f ∧ FR (PRu i) σ σ'
  | .inl u => ∃ σ', F = some (1, σ') ∧ TP σ' T n u.2.2.1 ∧ CL σ' u.2.2.2 ∧ (σ' 58 i = u.1 ∧ σ' 59 i = (c.length : Int) ∧ σ' 60 i = u.2.1 ∧ σ' 59 (i + 1) = (u.2.2.2.length : Int)) ∧ FR (PRu i) σ σ' ∧ (u.2.2.2.length : Int) ≤ u.2.2.1 ∧ p + 1 ≤ u.2.2.1 ∧ i < 16
theorem c_rule {T : Nat → Int} {n : Int} (hT : TB T n) {p : Int} {c : Cd} {σ : pS} {i : Nat} (hi : i ≤ 16) (hP : TP σ T n p) (hC : CL σ c) (hl : (c.length : Int) ≤ p) : rEnd T n p c i σ (f_Law_readRule_57_1 (i : Int) σ) (sRu T n (i : Int) p c) := by
  have hPb := hP.2.2.1
  have e9 : (hd T n p = 100 ∨ hd T n p = 120) → rEnd T n p c i σ (f_Law_readRule_57_1_p23 (i : Int) (hd T n p) σ) (if 16 ≤ (i : Int) then .inr (-1000 * 4 - p) else (match (if hd T n p = 100 then sXp T n 1000 0 0 (p + 1) c else .inl (p + 1, c)) with
      | .inr f => .inr f
      | .inl q => (match sCo T n q.1 q.2 with
        | .inr f => .inr f
        | .inl u => .inl (hd T n p, (q.2.length : Int), u.1, u.2)))) := by
    intro hc
    have hp : p < n := hd_in (T := T) (by omega)
    unfold f_Law_readRule_57_1_p23
    by_cases h16 : 16 ≤ (i : Int)
    · rw [if_neg (by omega), c_fail hP (by omega), Option.bind_some]
      dsimp only
      rw [if_pos (by decide), if_pos h16]
      exact ⟨_, rfl, pU_s _ _ _ _, FR.u (Or.inl (Or.inl rfl))⟩
    · obtain ⟨hs1, hs2⟩ := c_step hP hp
      rw [if_pos (by omega), hs1, Option.bind_some]
      dsimp only
      rw [if_pos (by omega), if_pos (by omega), Int.toNat_natCast, if_neg h16]
      generalize hσ0 : pU (pU (pU σ 1 3 (p + 1)) 58 i (hd T n p)) 59 i (pU σ 1 3 (p + 1) 57 8) = σ0
      have hP0 : TP σ0 T n (p + 1) := by rw [← hσ0]; exact (hs2.u _ _ (by decide) (by decide)).u _ _ (by decide) (by decide)
      have hC0 : CL σ0 c := by rw [← hσ0]; exact ((hC.mv (CO.u _ _)).u _ _ (by decide) (by decide) (by decide)).u _ _ (by decide) (by decide) (by decide)
      have f0 : FR (PRu i) σ σ0 := by rw [← hσ0]; exact ((FR.u (Or.inl (Or.inl rfl))).tr (FR.u (Or.inr (Or.inl ⟨rfl, rfl⟩)))).tr (FR.u (Or.inr (Or.inr (Or.inl ⟨rfl, Or.inl rfl⟩))))
      have h58 : σ0 58 i = hd T n p := by rw [← hσ0, pU_c _ _ _ _ (by decide), pU_s]
      have h59 : σ0 59 i = (c.length : Int) := by rw [← hσ0, pU_s, pU_c _ _ _ _ (by decide)]; exact hC.1
      have fin : ∀ (σ1 : pS) (q : Int × Cd), TP σ1 T n q.1 → CL σ1 q.2 → (q.2.length : Int) ≤ q.1 → p + 1 ≤ q.1 → FR (PRu i) σ σ1 → σ1 58 i = hd T n p → σ1 59 i = (c.length : Int) → rEnd T n p c i σ (f_Law_readRule_57_1_p73 (i : Int) σ1) (match sCo T n q.1 q.2 with
          | .inr f => .inr f
          | .inl u => .inl (hd T n p, (q.2.length : Int), u.1, u.2)) := by
        intro σ1 q g1 g2 g3 g4 g5 g6 g7
        have h1 := c_p73 hT (i := i) (by omega) g1 g2 g3
        cases hr : sCo T n q.1 q.2 with
        | inr f =>
          rw [hr] at h1
          obtain ⟨σ2, a2, b2, c2⟩ := h1
          exact ⟨σ2, a2, b2, g5.tr c2⟩
        | inl u =>
          rw [hr] at h1
          obtain ⟨σ2, a2, b2, c2, ⟨d1, d2, d3, d4⟩, e2, f2, f3⟩ := h1
          exact ⟨σ2, a2, b2, c2, ⟨d1.trans g6, d2.trans g7, d3, d4⟩, g5.tr e2, f2, by dsimp only; omega, by omega⟩
      by_cases h100 : hd T n p = 100
      · rw [if_pos h100, if_pos h100]
        have h1 := c_expr hT (o := 0) (s := 1) hP0 hC0 (by decide) (by omega) (by decide) (by decide)
        cases hr : sXp T n 1000 0 0 (p + 1) c with
        | inr f =>
          rw [hr] at h1
          obtain ⟨σ1, a1, b1, c1⟩ := h1
          rw [a1, Option.bind_some]
          exact ⟨σ1, rfl, b1, f0.tr c1.ru⟩
        | inl q =>
          rw [hr] at h1
          obtain ⟨σ1, a1, b1, c1, d1, e1, f1⟩ := h1
          rw [a1, Option.bind_some]
          dsimp only
          rw [if_neg (show ¬ ((1 : Int) = 0) by decide)]
          exact fin σ1 q b1 c1 (by omega) (by omega) (f0.tr d1.ru) ((d1.get (by unfold PL; omega)).trans h58) ((d1.get (by unfold PL; omega)).trans h59)
      · rw [if_neg h100, if_neg h100]
        exact fin σ0 (p + 1, c) hP0 hC0 (by dsimp only; omega) (Int.le_refl _) f0 h58 h59
  unfold sRu f_Law_readRule_57_1
  rw [c_sign hP, Option.bind_some]
  dsimp only
  by_cases h100 : hd T n p = 100
  · have := e9 (Or.inl h100)
    rw [if_pos h100, if_pos (Or.inl h100)]
    exact this
  · by_cases h120 : hd T n p = 120
    · have := e9 (Or.inr h120)
      rw [if_neg h100, if_pos h120, if_pos (Or.inr h120)]
      exact this
    · rw [if_neg h100, if_neg h120, c_fail hP (by omega), Option.bind_some]
      dsimp only
      rw [if_pos (by decide), if_neg (by omega)]
      exact ⟨_, rfl, pU_s _ _ _ _, FR.u (Or.inl (Or.inl rfl))⟩
def QRu (i : Nat) (k x : Nat) : Prop := QL k x ∨ ((k = 99 ∨ k = 100 ∨ k = 101 ∨ k = 102) ∧ x = i) ∨ (k = 84 ∧ x = 26)
theorem FR.mru {i : Nat} {τ τ' : pS} (h : FR QL τ τ') : FR (QRu i) τ τ' := h.mono (fun _ _ h => Or.inl h)
theorem ST.u {τ : pS} {T : Nat → Int} {n p o : Int} {c : Cd} {K : Ks} (h : ST τ T n p c K o) {k : Nat} (i : Nat) (v : Int) (h1 : k ≠ 84) (h2 : k ≠ 96) (h3 : k ≠ 97) (h4 : k ≠ 98) : ST (pU τ k i v) T n p c K o := by
  obtain ⟨a1, ⟨a2, a3⟩, ⟨a4, a5⟩, a6⟩ := h
  refine ⟨a1.u _ _ h1 h2, ⟨(pU_c _ _ _ _ (Ne.symm h1)).trans a2, fun j q hq => ?_⟩, ⟨(pU_c _ _ _ _ (Ne.symm h1)).trans a4, fun j q hq => ?_⟩, (pU_c _ _ _ _ (Ne.symm h1)).trans a6⟩
  · rw [pU_c _ _ _ _ (Ne.symm h3)]
    exact a3 j q hq
  · rw [pU_c _ _ _ _ (Ne.symm h4)]
    exact a5 j q hq
theorem ST.u26 {τ : pS} {T : Nat → Int} {n p o : Int} {c : Cd} {K : Ks} (h : ST τ T n p c K o) (v : Int) : ST (pU τ 84 26 v) T n p c K o := by
  obtain ⟨a1, ⟨a2, a3⟩, ⟨a4, a5⟩, a6⟩ := h
  refine ⟨a1.at ((pU_i _ _ _ _ (by decide)).trans a1.1) (pU_i _ _ _ _ (by decide)) (fun i => pU_c _ _ _ _ (by decide)) a1.2.2.1.1 a1.2.2.1.2.1, ⟨(pU_i _ _ _ _ (by decide)).trans a2, fun j q hq => ?_⟩, ⟨(pU_i _ _ _ _ (by decide)).trans a4, fun j q hq => ?_⟩, (pU_i _ _ _ _ (by decide)).trans a6⟩
  · rw [pU_c _ _ _ _ (by decide)]
    exact a3 j q hq
  · rw [pU_c _ _ _ _ (by decide)]
    exact a5 j q hq
def qEnd (T : Nat → Int) (n p : Int) (c : Cd) (i : Nat) (τ : pS) (F : Option (Int × pS)) (r : (Int × Int × Int × Cd) ⊕ Int) : Prop := match r with
  | .inr f => ∃ τ', F = some (0, τ') ∧ τ' 84 21 = f ∧ FR (QRu i) τ τ'
  | .inl u => ∃ (τ' : pS) (K : Ks) (o : Int), F = some (1, τ') ∧ ST τ' T n u.2.2.1 u.2.2.2 K o ∧ (τ' 99 i = u.1 ∧ τ' 100 i = (c.length : Int) ∧ τ' 101 i = u.2.1 ∧ τ' 102 i = (u.2.2.2.length : Int)) ∧ τ' 84 26 = (i : Int) + 1 ∧ FR (QRu i) τ τ' ∧ (u.2.2.2.length : Int) ≤ u.2.2.1 ∧ p + 1 ≤ u.2.2.1 ∧ i < 16
theorem m_104 {T : Nat → Int} {n p o : Int} {c0 : Cd} {q : Int × Cd} {K : Ks} {τ0 τ : pS} {i : Nat} {lt : Int} (hi : i < 16) (h : ST τ T n q.1 q.2 K o) (h26 : τ 84 26 = (i : Int)) (hl : (q.2.length : Int) ≤ q.1) (hp : p + 1 ≤ q.1) (h99 : τ 99 i = lt) (h100 : τ 100 i = (c0.length : Int)) (hf : FR (QRu i) τ0 τ) : qEnd T n p c0 i τ0 (f_M_readsRule_84_p104 τ) (match sCo T n q.1 q.2 with
      | .inr f => .inr f
      | .inl u => .inl (lt, (q.2.length : Int), u.1, u.2)) := by
  unfold f_M_readsRule_84_p104
  rw [h26, if_pos (by omega), Int.toNat_natCast]
  have h1 := m_rcond (s := 0) (h.u (k := 101) i (τ 84 24) (by decide) (by decide) (by decide) (by decide)) (Int.le_refl _) (by omega)
  have f0 : FR (QRu i) τ (pU τ 101 i (τ 84 24)) := FR.u (Or.inr (Or.inl ⟨by decide, rfl⟩))
  cases hr : sCo T n q.1 q.2 with
  | inr f =>
    rw [hr] at h1
    obtain ⟨τ1, a1, b1, c1⟩ := h1
    rw [a1, Option.bind_some]
    exact ⟨τ1, rfl, b1, (hf.tr f0).tr c1.mru⟩
  | inl u =>
    rw [hr] at h1
    obtain ⟨τ1, K1, o1, a1, b1, c1, d1, e1⟩ := h1
    rw [a1, Option.bind_some]
    dsimp only
    have g26 : τ1 84 26 = (i : Int) := (c1.get (by unfold QL; omega)).trans ((pU_c _ _ _ _ (by decide)).trans h26)
    rw [if_neg (show ¬ ((1 : Int) = 0) by decide), if_pos (show 0 ≤ τ1 84 26 ∧ τ1 84 26 < 16 by omega), g26, Int.toNat_natCast, pw_id (by omega) (by omega)]
    refine ⟨_, K1, o1, rfl, (b1.u _ _ (by decide) (by decide) (by decide) (by decide)).u26 _, ⟨?_, ?_, ?_, ?_⟩, pU_s _ _ _ _, (((hf.tr f0).tr c1.mru).tr (FR.u (Or.inr (Or.inl ⟨by decide, rfl⟩)))).tr (FR.u (Or.inr (Or.inr ⟨rfl, rfl⟩))), by dsimp only; omega, by dsimp only; omega, hi⟩
    · rw [pU_c _ _ _ _ (by decide), pU_c _ _ _ _ (by decide), c1.get (by unfold QL; omega), pU_c _ _ _ _ (by decide)]
      exact h99
    · rw [pU_c _ _ _ _ (by decide), pU_c _ _ _ _ (by decide), c1.get (by unfold QL; omega), pU_c _ _ _ _ (by decide)]
      exact h100
    · rw [pU_c _ _ _ _ (by decide), pU_c _ _ _ _ (by decide), c1.get (by unfold QL; omega), pU_s]
      exact h.2.1.1
    · rw [pU_c _ _ _ _ (by decide), pU_s]
      exact b1.2.1.1
theorem m_rule {T : Nat → Int} {n p : Int} {c : Cd} {τ : pS} {i : Nat} (hi : i ≤ 16) (h : TM τ T n p ∧ ML τ c) (h26 : τ 84 26 = (i : Int)) (hl : (c.length : Int) ≤ p) : qEnd T n p c i τ (f_M_readsRule_84 τ) (sRu T n (i : Int) p c) := by
  have hPb := h.1.2.2.1
  have e9 : (hd T n p = 100 ∨ hd T n p = 120) → qEnd T n p c i τ (f_M_readsRule_84_p27 (hd T n p) τ) (if 16 ≤ (i : Int) then .inr (-1000 * 4 - p) else (match (if hd T n p = 100 then sXp T n 1000 0 0 (p + 1) c else .inl (p + 1, c)) with
      | .inr f => .inr f
      | .inl q => (match sCo T n q.1 q.2 with
        | .inr f => .inr f
        | .inl u => .inl (hd T n p, (q.2.length : Int), u.1, u.2)))) := by
    intro hc
    have hp : p < n := hd_in (T := T) (by omega)
    unfold f_M_readsRule_84_p27
    rw [h26]
    by_cases h16 : 16 ≤ (i : Int)
    · rw [if_pos (by omega), h.1.1, m_wrong (by omega) (by omega), Option.bind_some]
      dsimp only
      rw [if_pos (by decide), if_pos h16]
      exact ⟨_, rfl, pU_s _ _ _ _, FR.u (Or.inl (Or.inl ⟨rfl, by decide⟩))⟩
    · rw [if_neg (by omega), if_pos (by omega), if_pos (by omega), Int.toNat_natCast, h.1.1, pw_id (by omega) (by omega), if_neg h16]
      generalize hτ0 : pU (pU (pU (pU (pU τ 99 i (hd T n p)) 84 19 (p + 1)) 100 i (τ 84 24)) 84 23 0) 84 25 0 = τ0
      have hS0 : ST τ0 T n (p + 1) c [] 0 := by
        rw [← hτ0]
        obtain ⟨h1, ⟨h2, h3⟩⟩ := h
        refine ⟨?_, ⟨?_, fun j q hq => ?_⟩, ⟨?_, fun j q hq => ?_⟩, ?_⟩
        · exact h1.at (by simp [pU]) (by simp [pU]) (fun i => by simp [pU]) (by omega) (by omega)
        · simp [pU, h2]
        · rw [show pU (pU (pU (pU (pU τ 99 i (hd T n p)) 84 19 (p + 1)) 100 i (τ 84 24)) 84 23 0) 84 25 0 97 j = τ 97 j by simp [pU]]
          exact h3 j q hq
        · simp [pU]
        · simp at hq
        · simp [pU]
      have f0 : FR (QRu i) τ τ0 := by
        rw [← hτ0]
        exact ((((FR.u (Or.inr (Or.inl ⟨by decide, rfl⟩))).tr (FR.u (Or.inl (Or.inl ⟨rfl, by decide⟩)))).tr (FR.u (Or.inr (Or.inl ⟨by decide, rfl⟩)))).tr (FR.u (Or.inl (Or.inl ⟨rfl, by decide⟩)))).tr (FR.u (Or.inl (Or.inl ⟨rfl, by decide⟩)))
      have g99 : τ0 99 i = hd T n p := by rw [← hτ0]; simp [pU]
      have g100 : τ0 100 i = (c.length : Int) := by rw [← hτ0]; simp [pU, h.2.1]
      have g26 : τ0 84 26 = (i : Int) := by rw [← hτ0]; simp [pU, h26]
      by_cases h100 : hd T n p = 100
      · rw [if_neg (by omega), if_pos h100]
        have h1 := m_expr hS0 (Or.inl (by decide)) (s := 1) (by decide) (by omega) (by show (0 : Int) ≤ p + 1; omega) (by decide) (by decide)
        cases hr : sXp T n 1000 0 0 (p + 1) c with
        | inr f =>
          rw [hr] at h1
          obtain ⟨τ1, a1, b1, c1⟩ := h1
          rw [a1, Option.bind_some]
          exact ⟨τ1, rfl, b1, f0.tr c1.mru⟩
        | inl q =>
          rw [hr] at h1
          obtain ⟨τ1, a1, b1, c1, d1, e1⟩ := h1
          rw [a1, Option.bind_some]
          dsimp only
          rw [if_neg (show ¬ ((1 : Int) = 0) by decide)]
          exact m_104 (by omega) b1 ((c1.get (by unfold QL; omega)).trans g26) (by omega) (by omega) ((c1.get (by unfold QL; omega)).trans g99) ((c1.get (by unfold QL; omega)).trans g100) (f0.tr c1.mru)
      · rw [if_pos (by omega), if_neg h100]
        exact m_104 (q := (p + 1, c)) (by omega) hS0 g26 (by dsimp only; omega) (Int.le_refl _) g99 g100 f0
  unfold sRu f_M_readsRule_84
  rw [m_here h.1, Option.bind_some]
  dsimp only
  by_cases h100 : hd T n p = 100
  · have := e9 (Or.inl h100)
    rw [if_pos h100, if_pos (Or.inl h100)]
    exact this
  · by_cases h120 : hd T n p = 120
    · have := e9 (Or.inr h120)
      rw [if_neg h100, if_pos h120, if_pos (Or.inr h120)]
      exact this
    · rw [if_neg h100, if_neg h120, h.1.1, m_wrong (by omega) (by omega), Option.bind_some]
      dsimp only
      rw [if_pos (by decide), if_neg (by omega)]
      exact ⟨_, rfl, pU_s _ _ _ _, FR.u (Or.inl (Or.inl ⟨rfl, by decide⟩))⟩
theorem nm_b {T : Nat → Int} {n : Int} : ∀ (r : Nat) (v p : Int), 0 ≤ p → p ≤ n → match nm T n r v p with
    | .inr f => f < 0
    | .inl q => p ≤ q.2 ∧ q.2 ≤ n := by
  intro r
  induction r with
  | zero =>
    intro v p h0 h1
    by_cases hg : 48 ≤ hd T n p ∧ hd T n p ≤ 57
    · rw [nm_0t hg]
      dsimp only
      omega
    · rw [nm_f hg]
      exact ⟨Int.le_refl _, h1⟩
  | succ r ih =>
    intro v p h0 h1
    by_cases hg : 48 ≤ hd T n p ∧ hd T n p ≤ 57
    · have hp : p < n := hd_in (T := T) (by omega)
      rw [nm_t hg]
      have h2 := ih (10 * v + (hd T n p - 48)) (p + 1) (by omega) (by omega)
      split at h2
      · exact h2
      · exact ⟨by omega, h2.2⟩
    · rw [nm_f hg]
      exact ⟨Int.le_refl _, h1⟩
theorem sNum_b {T : Nat → Int} {n p : Int} (h0 : 0 ≤ p) (h1 : p ≤ n) : match sNum T n 5 p with
    | .inr f => f < 0
    | .inl q => p + 1 ≤ q.2 ∧ q.2 ≤ n := by
  cases hr : sNum T n 5 p with
  | inr f =>
    unfold sNum at hr
    split at hr
    · have h2 := nm_b (T := T) 5 0 p h0 h1
      rw [hr] at h2
      exact h2
    · cases hr
      dsimp only
      omega
  | inl q =>
    have hgt := sNum_gt (by decide) hr
    unfold sNum at hr
    split at hr
    · have h2 := nm_b (T := T) 5 0 p h0 h1
      rw [hr] at h2
      exact ⟨by omega, h2.2⟩
    · cases hr
/-- faults are below nought, places stay in the text -/
theorem sXp_b {T : Nat → Int} {n : Int} : ∀ (d w : Nat) (o p : Int) (c : Cd), w ≤ 4 → 0 ≤ p → p ≤ n → 4 * (n - p) + rnk w < d → match sXp T n d w o p c with
    | .inr f => f < 0
    | .inl q => (w ≤ 2 → p + 1 ≤ q.1) ∧ p ≤ q.1 ∧ q.1 ≤ n := by
  intro d
  induction d with
  | zero =>
    intro w o p c hw h0 h1 hd9
    have : 1 ≤ rnk w := by unfold rnk; split <;> decide
    omega
  | succ d ih =>
    intro w o p c hw h0 h1 hd9
    match w, hw, hd9 with
    | 0, _, hd9 =>
      have hd9 : 4 * (n - p) + 3 < ((d + 1 : Nat) : Int) := hd9
      rw [sXp_0]
      have a := ih 1 o p c (by decide) h0 h1 (by show 4 * (n - p) + 2 < _; omega)
      cases hr : sXp T n d 1 o p c with
      | inr f => rw [hr] at a; exact a
      | inl q =>
        rw [hr] at a
        obtain ⟨a1, a2, a3⟩ := a
        have a1 := a1 (by decide)
        have b := ih 3 o q.1 q.2 (by decide) (by omega) a3 (by show 4 * (n - q.1) + 1 < _; omega)
        dsimp only
        revert b
        cases sXp T n d 3 o q.1 q.2 with
        | inr f => exact fun b => b
        | inl u => exact fun ⟨_, b2, b3⟩ => ⟨fun _ => by omega, by omega, b3⟩
    | 1, _, hd9 =>
      have hd9 : 4 * (n - p) + 2 < ((d + 1 : Nat) : Int) := hd9
      rw [sXp_1]
      have a := ih 2 o p c (by decide) h0 h1 (by show 4 * (n - p) + 1 < _; omega)
      cases hr : sXp T n d 2 o p c with
      | inr f => rw [hr] at a; exact a
      | inl q =>
        rw [hr] at a
        obtain ⟨a1, a2, a3⟩ := a
        have a1 := a1 (by decide)
        have b := ih 4 o q.1 q.2 (by decide) (by omega) a3 (by show 4 * (n - q.1) + 1 < _; omega)
        dsimp only
        revert b
        cases sXp T n d 4 o q.1 q.2 with
        | inr f => exact fun b => b
        | inl u => exact fun ⟨_, b2, b3⟩ => ⟨fun _ => by omega, by omega, b3⟩
    | 2, _, hd9 =>
      have hd9 : 4 * (n - p) + 1 < ((d + 1 : Nat) : Int) := hd9
      rw [sXp_2]
      by_cases h91 : hd T n p = 91
      · have hp : p < n := hd_in (T := T) (by omega)
        rw [if_pos h91]
        by_cases ho : 6 ≤ o
        · rw [if_pos ho]
          dsimp only
          omega
        · rw [if_neg ho]
          have a := ih 0 (o + 1) (p + 1) c (by decide) (by omega) (by omega) (by show 4 * (n - (p + 1)) + 3 < _; omega)
          cases hr : sXp T n d 0 (o + 1) (p + 1) c with
          | inr f => rw [hr] at a; exact a
          | inl q =>
            rw [hr] at a
            obtain ⟨a1, a2, a3⟩ := a
            dsimp only
            by_cases h93 : hd T n q.1 = 93
            · have hq : q.1 < n := hd_in (T := T) (by omega)
              rw [if_pos h93]
              exact ⟨fun _ => by dsimp only; omega, by dsimp only; omega, by dsimp only; omega⟩
            · rw [if_neg h93]
              dsimp only
              omega
      · rw [if_neg h91]
        by_cases hg : 48 ≤ hd T n p ∧ hd T n p ≤ 57
        · rw [if_pos hg]
          have a := sNum_b (T := T) h0 h1
          cases hr : sNum T n 5 p with
          | inr f => rw [hr] at a; exact a
          | inl q => rw [hr] at a; exact ⟨fun _ => a.1, by dsimp only; have := a.1; omega, a.2⟩
        · rw [if_neg hg]
          by_cases hi : 0 ≤ pIdx (hd T n p)
          · have hp := pIdx_in hi
            rw [if_pos hi]
            exact ⟨fun _ => Int.le_refl _, by dsimp only; omega, by dsimp only; omega⟩
          · rw [if_neg hi]
            dsimp only
            omega
    | 3, _, hd9 =>
      have hd9 : 4 * (n - p) + 1 < ((d + 1 : Nat) : Int) := hd9
      rw [sXp_3]
      by_cases hc : hd T n p = 43 ∨ hd T n p = 45
      · have hp : p < n := hd_in (T := T) (by omega)
        rw [if_pos hc]
        have a := ih 1 o (p + 1) c (by decide) (by omega) (by omega) (by show 4 * (n - (p + 1)) + 2 < _; omega)
        cases hr : sXp T n d 1 o (p + 1) c with
        | inr f => rw [hr] at a; exact a
        | inl q =>
          rw [hr] at a
          obtain ⟨a1, a2, a3⟩ := a
          have b := ih 3 o q.1 (q.2 ++ [(hd T n p, 0)]) (by decide) (by omega) a3 (by show 4 * (n - q.1) + 1 < _; omega)
          dsimp only
          revert b
          cases sXp T n d 3 o q.1 (q.2 ++ [(hd T n p, 0)]) with
          | inr f => exact fun b => b
          | inl u => exact fun ⟨_, b2, b3⟩ => ⟨fun h => absurd h (by decide), by omega, b3⟩
      · rw [if_neg hc]
        exact ⟨fun h => absurd h (by decide), Int.le_refl _, h1⟩
    | 4, _, hd9 =>
      have hd9 : 4 * (n - p) + 1 < ((d + 1 : Nat) : Int) := hd9
      rw [sXp_4]
      by_cases hc : hd T n p = 42 ∨ hd T n p = 47 ∨ hd T n p = 37
      · have hp : p < n := hd_in (T := T) (by omega)
        rw [if_pos hc]
        have a := ih 2 o (p + 1) c (by decide) (by omega) (by omega) (by show 4 * (n - (p + 1)) + 1 < _; omega)
        cases hr : sXp T n d 2 o (p + 1) c with
        | inr f => rw [hr] at a; exact a
        | inl q =>
          rw [hr] at a
          obtain ⟨a1, a2, a3⟩ := a
          have b := ih 4 o q.1 (q.2 ++ [(hd T n p, 0)]) (by decide) (by omega) a3 (by show 4 * (n - q.1) + 1 < _; omega)
          dsimp only
          revert b
          cases sXp T n d 4 o q.1 (q.2 ++ [(hd T n p, 0)]) with
          | inr f => exact fun b => b
          | inl u => exact fun ⟨_, b2, b3⟩ => ⟨fun h => absurd h (by decide), by omega, b3⟩
      · rw [if_neg hc]
        exact ⟨fun h => absurd h (by decide), Int.le_refl _, h1⟩
