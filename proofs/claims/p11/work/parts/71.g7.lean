/-- what a replay may write -/
def P_rq (k x : Nat) : Prop := P_mw k x ∨ k = 44
def Q_rq (k x : Nat) : Prop := Q_mw k x ∨ Q_li k x
theorem P_rq_N (k x : Nat) (h : P_rq k x) : PN k x := by unfold P_rq P_mw P_un at h; unfold PN; omega
theorem Q_rq_N (k x : Nat) (h : Q_rq k x) : QN k x := by unfold Q_rq Q_mw Q_un Q_li at h; unfold QN; omega
theorem dep_cg {σ σ' : pS} {k j : Nat} (h1 : FR P_rq σ σ') (h2 : σ' 39 k = σ 39 k) : dep σ' k j ↔ dep σ k j := by
  have a : ∀ q x, (q = 12 ∨ q = 13 ∨ q = 5 ∨ q = 7 ∨ q = 38) → σ' q x = σ q x := fun q x hq => h1.get (by unfold P_rq P_mw P_un; omega)
  unfold dep tkf
  rw [a 12 _ (by omega), a 13 _ (by omega), a 5 _ (by omega), a 7 _ (by omega), h2]
  constructor
  · rintro (q | q | ⟨q1, q2, e, e1, e2, e3⟩)
    · exact Or.inl q
    · exact Or.inr (Or.inl q)
    · rw [a 38 _ (by omega)] at e3
      exact Or.inr (Or.inr ⟨q1, q2, e, e1, e2, e3⟩)
  · rintro (q | q | ⟨q1, q2, e, e1, e2, e3⟩)
    · exact Or.inl q
    · exact Or.inr (Or.inl q)
    · rw [← a 38 _ (by omega)] at e3
      exact Or.inr (Or.inr ⟨q1, q2, e, e1, e2, e3⟩)
/-- the class's queue -/
def QC (σ : pS) (F : List Nat) : Prop := ∀ (a x : Nat), F[a]? = some x → σ 44 a = (x : Int)
/-- one in the queue: those that rest on it come into the queue -/
theorem c_in {m : Nat} {rec : Nat → O8} {D : Nat → Prop} {q i : Nat} {K : Int → Int → pS → Option (Int × pS)} (hi : i < 20) : ∀ (d k fu : Nat) (σ τ : pS) (F : List Nat), k + d = m → d < fu → PG m rec σ τ → RM m D σ τ → T2 m σ → QC σ F → F[i]? = some q → F.Nodup → (∀ x ∈ F, x < m ∧ σ 39 x = 0) →
    ∃ σ' τ' ks, f_Mach_replay_3_p37 K fu (F.length : Int) (i : Int) (k : Int) σ = K ((F ++ ks).length : Int) ((i + 1 : Nat) : Int) σ' ∧ Fl (fun x => σ 39 x ≠ 0 ∧ dep σ x q) k d ks ∧ mks ks τ = some τ' ∧ PG m rec σ' τ' ∧ RM m D σ' τ' ∧ T2 m σ' ∧ QC σ' (F ++ ks) ∧ (F ++ ks).Nodup ∧ (∀ x ∈ F ++ ks, x < m ∧ σ' 39 x = 0) ∧ (∀ x, x ∉ ks → σ' 39 x = σ 39 x) ∧ FR P_rq σ σ'
  | 0, k, fu, σ, τ, F, hk, hf, hG, h, hT, hQ, hq, hn, hF => by
    obtain ⟨n, rfl⟩ : ∃ n, fu = n + 1 := ⟨fu - 1, by omega⟩
    refine ⟨σ, τ, [], ?_, .nil k, rfl, hG, h, hT, by rw [List.append_nil]; exact hQ, by rw [List.append_nil]; exact hn, by rw [List.append_nil]; exact hF, fun _ _ => rfl, FR.rf _ _⟩
    show (if σ 4 11 ≤ (k : Int) then _ else _) = _
    rw [hG.cm, if_pos (by omega), pw_s hi (by decide), List.append_nil]
  | d + 1, k, fu, σ, τ, F, hk, hf, hG, h, hT, hQ, hq, hn, hF => by
    obtain ⟨n, rfl⟩ : ∃ n, fu = n + 1 := ⟨fu - 1, by omega⟩
    have hm := hG.le
    have g : (0 : Int) ≤ (k : Int) ∧ (k : Int) < 20 := by omega
    have gi : (0 : Int) ≤ (i : Int) ∧ (i : Int) < 20 := by omega
    have hkm : k < m := by omega
    have hFl := nd_le m F hn (fun x hx => (hF x hx).1)
    have e1 : pw ((k : Int) + 1) = ((k + 1 : Nat) : Int) := pw_s (show k < 20 by omega) (by decide)
    obtain ⟨b, b1, b2⟩ := c_dep hG (j := q) hkm
    have eX : f_Mach_replay_3_p37 K (n + 1) (F.length : Int) (i : Int) (k : Int) σ = (if σ 39 k = 0 then (f_Mach_replay_3_p37 K n (F.length : Int) (i : Int) ((k + 1 : Nat) : Int) σ) else (if (20 : Int) ≤ (F.length : Int) then (f_Mach_replay_3_p37 K n (F.length : Int) (i : Int) ((k + 1 : Nat) : Int) σ) else (if b = 0 then (f_Mach_replay_3_p37 K n (F.length : Int) (i : Int) ((k + 1 : Nat) : Int) σ) else ((f_Mach_makeWait_3 (k : Int) σ).bind fun q12 => (if 0 ≤ (F.length : Int) ∧ (F.length : Int) < 20 then (f_Mach_replay_3_p37 K n (pw ((F.length : Int) + 1)) (i : Int) ((k + 1 : Nat) : Int) (pU q12.2 44 F.length (k : Int))) else none))))) := by
      show (if σ 4 11 ≤ (k : Int) then _ else _) = _
      rw [hG.cm, if_neg (by omega), if_pos g, Int.toNat_natCast, e1, if_pos gi, Int.toNat_natCast, hQ i q hq, b1, Option.bind_some, Int.toNat_natCast]
    by_cases h0 : σ 39 k = 0
    · obtain ⟨σ', τ', ks, c1, c2, c3⟩ := c_in hi d (k + 1) n σ τ F (by omega) (by omega) hG h hT hQ hq hn hF
      refine ⟨σ', τ', ks, ?_, .no (fun z => z.1 h0) c2, c3⟩
      rw [eX, if_pos h0]
      exact c1
    · have hkF : k ∉ F := fun z => h0 (hF k z).2
      have hl : F.length < m := by
        have := nd_le m (k :: F) (List.nodup_cons.mpr ⟨hkF, hn⟩) (fun x hx => by
          rcases List.mem_cons.mp hx with rfl | z
          · exact hkm
          · exact (hF x z).1)
        simp at this
        omega
      rcases b2 with ⟨z1, z2⟩ | ⟨z1, z2⟩
      · obtain ⟨σ1, τ1, d1, d2, d3, d4, d5, d6, d7, d8⟩ := mw_ls hG h hT hkm
        have fq : FR P_rq σ (pU σ1 44 F.length (k : Int)) := (d5.mono (fun k x hh => Or.inl hh)).tr (FR.u (Or.inr rfl))
        have hG1 : PG m rec (pU σ1 44 F.length (k : Int)) τ1 := hG.fr (fq.mono P_rq_N) (d6.mono Q_mw_N)
        have h1 : RM m D (pU σ1 44 F.length (k : Int)) τ1 := d3.sno (FR.u (by unfold P_sno; omega)) (FR.rf _ _)
        have s39 : ∀ x, pU σ1 44 F.length (k : Int) 39 x = if x = k then 0 else σ 39 x := fun x => (pU_c _ _ _ _ (by decide)).trans (d7 x)
        have hT1 : T2 m (pU σ1 44 F.length (k : Int)) := fun x hx z => by
          rw [pU_c _ _ _ _ (by decide)] at z ⊢
          exact d4 x hx z
        obtain ⟨σ', τ', ks, c1, c2, c3, c4, c5, c6, c7, c8, c9, c10, c11⟩ := c_in hi (q := q) (K := K) d (k + 1) n (pU σ1 44 F.length (k : Int)) τ1 (F ++ [k]) (by omega) (by omega) hG1 h1 hT1 (fun a x hx => by
          by_cases ha : a = F.length
          · rw [ha, List.getElem?_append_right (Nat.le_refl _)] at hx
            simp at hx
            rw [ha, pU_s, hx]
          · have h1 : a < F.length := by
              have := (List.getElem?_eq_some_iff.mp hx).1
              rw [List.length_append] at this
              simp at this
              omega
            rw [List.getElem?_append_left h1] at hx
            rw [pU_i _ _ _ _ ha, d5.get (by unfold P_mw P_un; omega)]
            exact hQ a x hx) (by
          rw [List.getElem?_append_left (List.getElem?_eq_some_iff.mp hq).1]
          exact hq) (by
          rw [List.nodup_append]
          refine ⟨hn, by simp, fun a ha b hb => ?_⟩
          simp at hb
          rw [hb]
          exact fun e => hkF (e ▸ ha)) (fun x hx => by
          rw [List.mem_append] at hx
          rw [s39]
          rcases hx with hx | hx
          · have := hF x hx
            refine ⟨this.1, ?_⟩
            split
            · rfl
            · exact this.2
          · simp at hx
            rw [hx, if_pos rfl]
            exact ⟨hkm, rfl⟩)
        have hks : k ∉ ks := fun z => by
          have := (c2.mem k).mp z
          omega
        refine ⟨σ', τ', k :: ks, ?_, .yes ⟨h0, z2⟩ (c2.cg (fun x p1 p2 => by
          rw [s39, if_neg (by omega)]
          rw [dep_cg fq (by rw [s39, if_neg (by omega)])])), ?_, c4, c5, c6, by rw [List.append_assoc] at c7; exact c7, by rw [List.append_assoc] at c8; exact c8, by rw [List.append_assoc] at c9; exact c9, fun x hx => ?_, fq.tr c11⟩
        · rw [eX, if_neg h0, if_neg (by omega), if_neg (by omega), d1, Option.bind_some, if_pos (by omega), pw_s (show F.length < 20 by omega) (by decide)]
          rw [List.append_assoc] at c1
          have el : ((F ++ [k]).length : Int) = ((F.length + 1 : Nat) : Int) := by simp
          rw [el] at c1
          exact c1
        · show (mMk k τ).bind (mks ks) = _
          rw [d2]
          exact c3
        · rw [List.mem_cons] at hx
          rw [c10 x (fun z => hx (Or.inr z)), s39, if_neg (fun z => hx (Or.inl z))]
      · obtain ⟨σ', τ', ks, c1, c2, c3⟩ := c_in hi d (k + 1) n σ τ F (by omega) (by omega) hG h hT hQ hq hn hF
        refine ⟨σ', τ', ks, ?_, .no (fun z => z2 z.2) c2, c3⟩
        rw [eX, if_neg h0, if_neg (by omega), if_pos z1]
        exact c1
