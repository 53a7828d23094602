/-- loads take from stores ahead, or from memory -/
def GV (m : Nat) (D : Nat → Prop) (σ : pS) : Prop := ∀ k, k < m → D k → σ 5 k = 2 → ∀ e : Nat, (e : Int) < σ 7 k → σ 38 (4 * k + e) = -1 ∨ (0 ≤ σ 38 (4 * k + e) ∧ σ 38 (4 * k + e) < (k : Int) ∧ σ 5 (σ 38 (4 * k + e)).toNat = 3)
theorem gv_g {g : Nat → Int} {r : Int} : ∀ {k : Nat} {i : Nat}, gv g k r = (i : Int) → g i = r
  | 0, i, h => by
    unfold gv at h
    omega
  | k + 1, i, h => by
    unfold gv at h
    by_cases hg : g k = r
    · rw [if_pos hg] at h
      have : k = i := by omega
      rw [← this]
      exact hg
    · rw [if_neg hg] at h
      exact gv_g h
theorem src_g {g : Nat → Int} {r : Int} {k i : Nat} (h : src g k r = (i : Int)) : g i = r ∧ 0 ≤ r := by
  unfold src at h
  by_cases hr : 0 ≤ r ∧ r < 8
  · rw [if_pos hr] at h
    exact ⟨gv_g h, hr.1⟩
  · rw [if_neg hr] at h
    omega
section MD
variable {m : Nat} {rec : Nat → O8} {D : Nat → Prop} {σ τ : pS}
theorem m_tk {k : Nat} {i : Int} (hk : k < 20) {s : Nat} (hs : τ 93 k = (s : Int)) (hc : σ 7 k = (s : Int)) (hs4 : s ≤ 4) (he : ∀ e : Nat, (e : Int) < σ 7 k → σ 38 (4 * k + e) = τ 124 (4 * k + e)) : ∀ (d a fu : Nat), a + d = s → d < fu → ∃ b : Int, f_M_tookFrom_84_p2 fu (k : Int) i (a : Int) τ = some (b, τ) ∧ ((b = 1 ∧ tkf σ k i a) ∨ (b = 0 ∧ ¬ tkf σ k i a))
  | 0, a, fu, ha, hf => by
    obtain ⟨n, rfl⟩ : ∃ n, fu = n + 1 := ⟨fu - 1, by omega⟩
    refine ⟨0, ?_, Or.inr ⟨rfl, ?_⟩⟩
    · show (if (0 : Int) ≤ (k : Int) ∧ (k : Int) < 20 then _ else _) = _
      rw [if_pos (by omega), Int.toNat_natCast, hs, if_pos (by omega)]
    · rintro ⟨e, e1, e2, -⟩
      rw [hc] at e2
      omega
  | d + 1, a, fu, ha, hf => by
    obtain ⟨n, rfl⟩ : ∃ n, fu = n + 1 := ⟨fu - 1, by omega⟩
    have ha4 : a < 4 := by omega
    obtain ⟨b, q1, q2⟩ := m_tk hk hs hc hs4 he (i := i) d (a + 1) n (by omega) (by omega)
    have eX : f_M_tookFrom_84_p2 (n + 1) (k : Int) i (a : Int) τ = (if τ 124 (4 * k + a) = i then some (1, τ) else f_M_tookFrom_84_p2 n (k : Int) i ((a + 1 : Nat) : Int) τ) := by
      show (if (0 : Int) ≤ (k : Int) ∧ (k : Int) < 20 then _ else _) = _
      rw [if_pos (by omega), Int.toNat_natCast, hs, if_neg (by omega), (ix4 hk ha4).2.1, if_pos (ix4 hk ha4).2.2, Int.toNat_natCast, pw_s ha4 (by decide)]
    rw [eX, ← he a (by rw [hc]; omega)]
    by_cases h : σ 38 (4 * k + a) = i
    · rw [if_pos h]
      exact ⟨1, rfl, Or.inl ⟨rfl, a, Nat.le_refl _, by rw [hc]; omega, h⟩⟩
    · rw [if_neg h]
      refine ⟨b, q1, ?_⟩
      rcases q2 with ⟨b1, e, e1, e2, e3⟩ | ⟨b1, b2⟩
      · exact Or.inl ⟨b1, e, by omega, e2, e3⟩
      · refine Or.inr ⟨b1, ?_⟩
        rintro ⟨e, e1, e2, e3⟩
        by_cases hea : e = a
        · rw [hea] at e3
          exact h e3
        · exact b2 ⟨e, by omega, e2, e3⟩
/-- one more asked whether it rests on i -/
theorem m_st (hG : PG m rec σ τ) (h : RM m D σ τ) (hV : GV m D σ) {i k : Nat} (hi : i < m) (hk : k < m) (n : Nat) : (τ 118 k ≠ 0 ∧ dep σ k i ∧ f_M_listsThoseBy_84_p4 (n + 1) (i : Int) (k : Int) τ = (f_M_lists_84 (k : Int) τ).bind fun q => f_M_listsThoseBy_84_p4 n (i : Int) ((k + 1 : Nat) : Int) q.2) ∨ (¬ (τ 118 k ≠ 0 ∧ dep σ k i) ∧ f_M_listsThoseBy_84_p4 (n + 1) (i : Int) (k : Int) τ = f_M_listsThoseBy_84_p4 n (i : Int) ((k + 1 : Nat) : Int) τ) := by
  have hm := hG.le
  have gi : (0 : Int) ≤ (i : Int) ∧ (i : Int) < 20 := by omega
  have gk : (0 : Int) ≤ (k : Int) ∧ (k : Int) < 20 := by omega
  have ki := hG.kd hi
  have kk := hG.kd hk
  have sk := h.st k hk
  have e1 : pw ((k : Int) + 1) = ((k + 1 : Nat) : Int) := pw_s (show k < 20 by omega) (by decide)
  have so := hG.so k hk
  have eX : f_M_listsThoseBy_84_p4 (n + 1) (i : Int) (k : Int) τ = (if τ 118 k = 0 then f_M_listsThoseBy_84_p4 n (i : Int) ((k + 1 : Nat) : Int) τ else (if τ 88 i = 3 then (if τ 88 k = 2 then (if τ 118 k = 2 then ((f_M_tookFrom_84 (k : Int) (i : Int) τ).bind fun q16 => (if q16.1 = 0 then (f_M_listsThoseBy_84_p67 (f_M_listsThoseBy_84_p4 n) (i : Int) (k : Int) q16.2) else (f_M_listsThoseBy_84_p68 (f_M_listsThoseBy_84_p4 n) (i : Int) (k : Int) 1 q16.2))) else (f_M_listsThoseBy_84_p67 (f_M_listsThoseBy_84_p4 n) (i : Int) (k : Int) τ)) else (f_M_listsThoseBy_84_p67 (f_M_listsThoseBy_84_p4 n) (i : Int) (k : Int) τ)) else (f_M_listsThoseBy_84_p67 (f_M_listsThoseBy_84_p4 n) (i : Int) (k : Int) τ))) := by
    show (if τ 84 2 ≤ (k : Int) then _ else _) = _
    rw [hG.mm, if_neg (by omega)]
    simp only [if_pos gi, if_pos gk, Int.toNat_natCast, e1]
  rw [eX]
  by_cases h0 : τ 118 k = 0
  · rw [if_pos h0]
    exact Or.inr ⟨fun q => q.1 h0, rfl⟩
  rw [if_neg h0]
  have e67 : f_M_listsThoseBy_84_p67 (f_M_listsThoseBy_84_p4 n) (i : Int) (k : Int) τ = (if τ 88 i = 3 then f_M_listsThoseBy_84_p4 n (i : Int) ((k + 1 : Nat) : Int) τ else (if src (σ 8) k (σ 9 k) = (i : Int) ∨ src (σ 8) k (σ 10 k) = (i : Int) then (f_M_lists_84 (k : Int) τ).bind fun q => f_M_listsThoseBy_84_p4 n (i : Int) ((k + 1 : Nat) : Int) q.2 else f_M_listsThoseBy_84_p4 n (i : Int) ((k + 1 : Nat) : Int) τ)) := by
    unfold f_M_listsThoseBy_84_p67 f_M_listsThoseBy_84_p68
    rw [if_pos rfl, if_pos gi, Int.toNat_natCast, e1]
    by_cases h3 : τ 88 i = 3
    · rw [if_pos h3, if_pos h3]
    · rw [if_neg h3, if_neg h3, m_has hm hG.op hk, Option.bind_some]
      by_cases hs : src (σ 8) k (σ 9 k) = (i : Int) ∨ src (σ 8) k (σ 10 k) = (i : Int)
      · simp only [if_pos hs]
        rw [if_neg (by decide)]
        unfold f_M_listsThoseBy_84_p92
        rw [e1]
      · simp only [if_neg hs]
        rw [if_pos trivial]
  have e68 : f_M_listsThoseBy_84_p68 (f_M_listsThoseBy_84_p4 n) (i : Int) (k : Int) 1 τ = (f_M_lists_84 (k : Int) τ).bind fun q => f_M_listsThoseBy_84_p4 n (i : Int) ((k + 1 : Nat) : Int) q.2 := by
    unfold f_M_listsThoseBy_84_p68 f_M_listsThoseBy_84_p92
    rw [if_neg (by decide), e1]
  by_cases h3 : τ 88 i = 3
  · -- a store: sources never are it
    have no : ∀ r, src (σ 8) k r ≠ (i : Int) := fun r hr => by
      obtain ⟨a, b⟩ := src_g hr
      obtain ⟨c1, -, -⟩ := hG.op i hi
      have c0 := c1.1
      rcases c1.2.2.2.1 with ⟨-, c2, -⟩ | ⟨c2, -⟩ <;> omega
    have n1 : σ 12 k ≠ (i : Int) := by rw [so.1]; exact no _
    have n2 : σ 13 k ≠ (i : Int) := by rw [so.2]; exact no _
    have skip : f_M_listsThoseBy_84_p67 (f_M_listsThoseBy_84_p4 n) (i : Int) (k : Int) τ = f_M_listsThoseBy_84_p4 n (i : Int) ((k + 1 : Nat) : Int) τ := by rw [e67, if_pos h3]
    rw [if_pos h3]
    by_cases h4 : τ 88 k = 2
    · rw [if_pos h4]
      by_cases h5 : τ 118 k = 2
      · rw [if_pos h5]
        have hD := h.dn k hk (by omega)
        obtain ⟨y1, y2⟩ := hG.sz hk (by omega)
        obtain ⟨s, hs, hs4⟩ : ∃ s : Nat, σ 7 k = (s : Int) ∧ s ≤ 4 := ⟨(σ 7 k).toNat, by omega, by omega⟩
        obtain ⟨b, q1, q2⟩ := m_tk (τ := τ) (show k < 20 by omega) (i := (i : Int)) (y1.trans hs) hs hs4 ((h.va k hk hD).2.2.2 (by omega)) s 0 4096 (by omega) (by omega)
        rw [show f_M_tookFrom_84 (k : Int) (i : Int) τ = some (b, τ) from q1, Option.bind_some]
        dsimp only
        rcases q2 with ⟨b1, b2⟩ | ⟨b1, b2⟩
        · rw [if_neg (by omega), e68]
          exact Or.inl ⟨h0, Or.inr (Or.inr ⟨by omega, by omega, b2⟩), rfl⟩
        · rw [if_pos b1, skip]
          refine Or.inr ⟨?_, rfl⟩
          rintro ⟨-, q | q | ⟨-, -, q⟩⟩
          · exact n1 q
          · exact n2 q
          · exact b2 q
      · rw [if_neg h5, skip]
        refine Or.inr ⟨?_, rfl⟩
        rintro ⟨-, q | q | ⟨-, q, -⟩⟩
        · exact n1 q
        · exact n2 q
        · omega
    · rw [if_neg h4, skip]
      refine Or.inr ⟨?_, rfl⟩
      rintro ⟨-, q | q | ⟨q, -⟩⟩
      · exact n1 q
      · exact n2 q
      · omega
  · rw [if_neg h3, e67, if_neg h3, ← so.1, ← so.2]
    by_cases hs : σ 12 k = (i : Int) ∨ σ 13 k = (i : Int)
    · rw [if_pos hs]
      exact Or.inl ⟨h0, hs.elim Or.inl (fun q => Or.inr (Or.inl q)), rfl⟩
    · rw [if_neg hs]
      refine Or.inr ⟨?_, rfl⟩
      rintro ⟨-, q | q | ⟨q1, q2, e, -, e2, e3⟩⟩
      · exact hs (Or.inl q)
      · exact hs (Or.inr q)
      · rcases hV k hk (h.dn k hk q2) q1 e e2 with z | ⟨-, -, z⟩
        · omega
        · rw [e3, Int.toNat_natCast] at z
          omega
end MD
/-- the reference's list -/
def RLt (τ : pS) (R : List Nat) : Prop := τ 84 72 = (R.length : Int) ∧ ∀ (a x : Nat), R[a]? = some x → τ 131 a = (x : Int)
def Q_li (k x : Nat) : Prop := k = 131 ∨ (k = 84 ∧ x = 72)
theorem ov_of {τ τ' : pS} (h : FR Q_li τ τ') : τ' = ov τ (τ' 131) (τ' 84 72) := by
  funext k x
  unfold ov
  by_cases h1 : k = 131
  · rw [if_pos h1, h1]
  · rw [if_neg h1]
    by_cases h2 : k = 84 ∧ x = 72
    · rw [if_pos h2, h2.1, h2.2]
    · rw [if_neg h2]
      exact h.get (by unfold Q_li; omega)
theorem m_li {τ : pS} {R : List Nat} (h : RLt τ R) (hR : R.length < 400) (k : Nat) : ∃ τ', f_M_lists_84 (k : Int) τ = some (0, τ') ∧ RLt τ' (R ++ [k]) ∧ FR Q_li τ τ' := by
  unfold f_M_lists_84
  rw [h.1, if_pos (by omega), Int.toNat_natCast, pw_id (by omega) (by omega)]
  refine ⟨_, rfl, ⟨?_, fun a x hx => ?_⟩, (FR.u (Or.inl rfl)).tr (FR.u (Or.inr ⟨rfl, rfl⟩))⟩
  · rw [pU_s, List.length_append]
    simp
  · rw [pU_c _ _ _ _ (by decide)]
    by_cases ha : a = R.length
    · rw [ha, pU_s]
      rw [ha, List.getElem?_append_right (Nat.le_refl _)] at hx
      simp at hx
      omega
    · rw [pU_i _ _ _ _ ha]
      have h1 : a < R.length := by
        have := (List.getElem?_eq_some_iff.mp hx).1
        rw [List.length_append] at this
        simp at this
        omega
      rw [List.getElem?_append_left h1] at hx
      exact h.2 a x hx
theorem m_lst {m : Nat} {rec : Nat → O8} {D : Nat → Prop} {σ : pS} {i : Nat} (hi : i < m) (hV : GV m D σ) : ∀ (d k fu : Nat) (τ : pS) (R : List Nat), k + d = m → d < fu → PG m rec σ τ → RM m D σ τ → RLt τ R → R.length + d ≤ 400 → ∃ τ' ks, f_M_listsThoseBy_84_p4 fu (i : Int) (k : Int) τ = some (0, τ') ∧ Fl (fun x => τ 118 x ≠ 0 ∧ dep σ x i) k d ks ∧ RLt τ' (R ++ ks) ∧ FR Q_li τ τ'
  | 0, k, fu, τ, R, hk, hf, hG, h, hR, hl => by
    obtain ⟨n, rfl⟩ : ∃ n, fu = n + 1 := ⟨fu - 1, by omega⟩
    refine ⟨τ, [], ?_, .nil k, by rw [List.append_nil]; exact hR, FR.rf _ _⟩
    show (if τ 84 2 ≤ (k : Int) then _ else _) = _
    rw [hG.mm, if_pos (by omega)]
  | d + 1, k, fu, τ, R, hk, hf, hG, h, hR, hl => by
    obtain ⟨n, rfl⟩ : ∃ n, fu = n + 1 := ⟨fu - 1, by omega⟩
    rcases m_st hG h hV hi (show k < m by omega) n with ⟨a1, a2, a3⟩ | ⟨a1, a2⟩
    · obtain ⟨τ1, b1, b2, b3⟩ := m_li hR (by omega) k
      have f1 : FR Q_sno τ τ1 := b3.mono (fun k x hh => by unfold Q_li at hh; unfold Q_sno; omega)
      have hG1 : PG m rec σ τ1 := hG.fr (FR.rf _ _) (b3.mono (fun k x hh => by unfold Q_li at hh; unfold QN; omega))
      obtain ⟨τ', ks, c1, c2, c3, c4⟩ := m_lst hi hV d (k + 1) n τ1 (R ++ [k]) (by omega) (by omega) hG1 (h.sno (FR.rf _ _) f1) b2 (by rw [List.length_append]; simp; omega)
      refine ⟨τ', k :: ks, ?_, .yes ⟨a1, a2⟩ (c2.cg (fun x _ _ => by rw [b3.get (k := 118) (x := x) (by unfold Q_li; omega)])), by rw [List.append_assoc] at c3; exact c3, b3.tr c4⟩
      rw [a3, b1, Option.bind_some]
      exact c1
    · obtain ⟨τ', ks, c1, c2, c3, c4⟩ := m_lst hi hV d (k + 1) n τ R (by omega) (by omega) hG h hR (by omega)
      exact ⟨τ', ks, by rw [a2]; exact c1, .no a1 c2, c3, c4⟩
