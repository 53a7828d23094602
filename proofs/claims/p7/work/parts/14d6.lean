section FO
variable {m : Nat} {rec : Nat → O8}
theorem fo_lp {c w : Int} : ∀ (d i fu1 fu2 : Nat) (D : Nat → Prop) (σ τ : pS), i + d = m → d < fu1 → d < fu2 → σ 3 11 = c → RN m rec D σ τ → ∃ D' σ' τ', f_Mach_finishOps_3_p2 fu1 (i : Int) σ = some (0, σ') ∧ f_M_cycleGoes_84_p2 fu2 c w (i : Int) τ = f_M_cycleGoes_84_p47 4096 c w 0 0 τ' ∧ RN m rec D' σ' τ' ∧ FR PN σ σ' ∧ FR QN τ τ' ∧ σ' 3 11 = c
  | 0, i, fu1, fu2, D, σ, τ, hi, h1, h2, hc, H => by
    obtain ⟨n1, rfl⟩ : ∃ n, fu1 = n + 1 := ⟨fu1 - 1, by omega⟩
    obtain ⟨n2, rfl⟩ : ∃ n, fu2 = n + 1 := ⟨fu2 - 1, by omega⟩
    refine ⟨D, σ, τ, ?_, ?_, H, FR.rf _ _, FR.rf _ _, hc⟩
    · show (if σ 4 11 ≤ (i : Int) then _ else _) = _
      rw [H.g.cm, if_pos (by omega)]
    · show (if τ 84 2 ≤ (i : Int) then _ else _) = _
      rw [H.g.mm, if_pos (by omega)]
  | d + 1, i, fu1, fu2, D, σ, τ, hi, h1, h2, hc, H => by
    obtain ⟨n1, rfl⟩ : ∃ n, fu1 = n + 1 := ⟨fu1 - 1, by omega⟩
    obtain ⟨n2, rfl⟩ : ∃ n, fu2 = n + 1 := ⟨fu2 - 1, by omega⟩
    have hm := H.g.le
    have him : i < m := by omega
    have i20 : i < 20 := by omega
    have g : (0 : Int) ≤ (i : Int) ∧ (i : Int) < 20 := by omega
    have st := H.r.st i him
    have eX : f_Mach_finishOps_3_p2 (n1 + 1) (i : Int) σ = f_Mach_finishOps_3_p2 (n1 + 1) (i : Int) σ := rfl
    have sX : ¬ (σ 39 i = 1 ∧ σ 40 i = c) → f_Mach_finishOps_3_p2 (n1 + 1) (i : Int) σ = f_Mach_finishOps_3_p2 n1 ((i + 1 : Nat) : Int) σ := fun hn => by
      show (if σ 4 11 ≤ (i : Int) then _ else _) = _
      rw [H.g.cm, if_neg (by omega), if_pos g, Int.toNat_natCast, pw_s i20 (by decide)]
      by_cases z : σ 39 i = 1
      · rw [if_pos z, if_pos g, hc, if_neg (fun q => hn ⟨z, q⟩)]
      · rw [if_neg z]
    have sM : f_M_cycleGoes_84_p2 (n2 + 1) c w (i : Int) τ = (if σ 39 i = 1 then (if σ 40 i = c then ((f_M_comesDone_84 (i : Int) c τ).bind fun q16 => (f_M_cycleGoes_84_p2 n2 c w ((i + 1 : Nat) : Int) q16.2)) else f_M_cycleGoes_84_p2 n2 c w ((i + 1 : Nat) : Int) τ) else f_M_cycleGoes_84_p2 n2 c w ((i + 1 : Nat) : Int) τ) := by
      show (if τ 84 2 ≤ (i : Int) then _ else _) = _
      rw [H.g.mm, if_neg (by omega), if_pos g, Int.toNat_natCast, pw_s i20 (by decide), ← st.1]
      by_cases z : σ 39 i = 1
      · rw [if_pos z, if_pos z, if_pos g, ← H.r.ti i him z]
      · rw [if_neg z, if_neg z]
    by_cases z : σ 39 i = 1 ∧ σ 40 i = c
    · obtain ⟨σ1, τ1, q1, q2, q3, q4, q5, q6⟩ := fi_ls H him z.1 (by rw [hc]; exact z.2) n1
      rw [hc] at q2
      obtain ⟨D', σ', τ', r1, r2, r3, r4, r5, r6⟩ := fo_lp (c := c) (w := w) d (i + 1) n1 n2 _ σ1 τ1 (by omega) (by omega) (by omega) (q6.trans hc) q3
      refine ⟨D', σ', τ', q1.trans r1, ?_, r3, q4.tr r4, q5.tr r5, r6⟩
      rw [sM, if_pos z.1, if_pos z.2, q2, Option.bind_some]
      exact r2
    · obtain ⟨D', σ', τ', r1, r2, r3, r4, r5, r6⟩ := fo_lp (c := c) (w := w) d (i + 1) n1 n2 D σ τ (by omega) (by omega) (by omega) hc H
      refine ⟨D', σ', τ', (sX z).trans r1, ?_, r3, r4, r5, r6⟩
      rw [sM]
      by_cases z1 : σ 39 i = 1
      · rw [if_pos z1, if_neg (fun q => z ⟨z1, q⟩)]
        exact r2
      · rw [if_neg z1]
        exact r2
variable {D : Nat → Prop} {σ τ : pS}
/-- is the source done (none: yes) -/
def sdn (σ : pS) (s : Int) : Prop := s < 0 ∨ σ 39 s.toNat = 2
theorem c_idn {s : Int} (hs : s < 20) : ∃ b : Int, f_Mach_isDone_3 s σ = some (b, σ) ∧ ((b = 1 ∧ sdn σ s) ∨ (b = 0 ∧ ¬ sdn σ s)) := by
  unfold f_Mach_isDone_3
  by_cases h : s < 0
  · rw [if_pos h]
    exact ⟨1, rfl, Or.inl ⟨rfl, Or.inl h⟩⟩
  · rw [if_neg h, if_neg (by omega), if_pos (by omega)]
    by_cases z : σ 39 s.toNat = 2
    · rw [if_pos z]
      exact ⟨1, rfl, Or.inl ⟨rfl, Or.inr z⟩⟩
    · rw [if_neg z]
      exact ⟨0, rfl, Or.inr ⟨rfl, fun q => q.elim h z⟩⟩
theorem m_asd (H : RN m rec D σ τ) {i : Nat} (hi : i < m) : ∀ (d r fu : Nat), r + d = 8 → d < fu → ∃ b : Int, f_M_areSourcesDone_84_p2 fu (i : Int) (r : Int) τ = some (b, τ) ∧ ((b = 1 ∧ ∀ x : Nat, r ≤ x → x < 8 → (σ 9 i = (x : Int) ∨ σ 10 i = (x : Int)) → sdn σ (gv (σ 8) i (x : Int))) ∨ (b = 0 ∧ ¬ ∀ x : Nat, r ≤ x → x < 8 → (σ 9 i = (x : Int) ∨ σ 10 i = (x : Int)) → sdn σ (gv (σ 8) i (x : Int))))
  | 0, r, fu, hr, hf => by
    obtain ⟨n, rfl⟩ : ∃ n, fu = n + 1 := ⟨fu - 1, by omega⟩
    refine ⟨1, ?_, Or.inl ⟨rfl, fun x h1 h2 => by omega⟩⟩
    show (if (8 : Int) ≤ (r : Int) then _ else _) = _
    rw [if_pos (by omega)]
  | d + 1, r, fu, hr, hf => by
    obtain ⟨n, rfl⟩ : ∃ n, fu = n + 1 := ⟨fu - 1, by omega⟩
    have hm := H.g.le
    obtain ⟨b, q1, q2⟩ := m_asd H hi d (r + 1) n (by omega) (by omega)
    have gr := gv_r (σ 8) (r : Int) i
    have nx : sdn σ (gv (σ 8) i (r : Int)) ∨ ¬ (σ 9 i = (r : Int) ∨ σ 10 i = (r : Int)) → ((b = 1 ∧ ∀ x : Nat, r ≤ x → x < 8 → (σ 9 i = (x : Int) ∨ σ 10 i = (x : Int)) → sdn σ (gv (σ 8) i (x : Int))) ∨ (b = 0 ∧ ¬ ∀ x : Nat, r ≤ x → x < 8 → (σ 9 i = (x : Int) ∨ σ 10 i = (x : Int)) → sdn σ (gv (σ 8) i (x : Int)))) := fun hok => by
      rcases q2 with ⟨b1, b2⟩ | ⟨b1, b2⟩
      · refine Or.inl ⟨b1, fun x h1 h2 h3 => ?_⟩
        by_cases hx : x = r
        · rw [hx] at h3 ⊢
          exact hok.elim (fun z => z) (fun z => absurd h3 z)
        · exact b2 x (by omega) h2 h3
      · exact Or.inr ⟨b1, fun z => b2 (fun x h1 h2 h3 => z x (by omega) h2 h3)⟩
    show ∃ b : Int, (if (8 : Int) ≤ (r : Int) then _ else _) = _ ∧ _
    rw [if_neg (by omega), m_reads hm H.g.op hi (by omega), Option.bind_some]
    unfold f_M_areSourcesDone_84_p27
    rw [pw_s (show r < 8 by omega) (by decide)]
    by_cases h1 : σ 9 i = (r : Int) ∨ σ 10 i = (r : Int)
    · simp only [if_pos h1]
      rw [if_neg (by decide), m_giv hm H.g.op (show (0 : Int) ≤ (r : Int) by omega) (Nat.le_of_lt hi), Option.bind_some]
      dsimp only
      by_cases h2 : gv (σ 8) i (r : Int) = -1
      · rw [if_pos h2]
        exact ⟨b, q1, nx (Or.inl (Or.inl (by omega)))⟩
      · have es := (H.r.st (gv (σ 8) i (r : Int)).toNat (by omega)).1
        rw [if_neg h2, if_pos (by omega)]
        by_cases h3 : σ 39 (gv (σ 8) i (r : Int)).toNat = 2
        · rw [if_pos (show τ 118 (gv (σ 8) i (r : Int)).toNat = 2 by rw [← es]; exact h3)]
          exact ⟨b, q1, nx (Or.inl (Or.inr h3))⟩
        · rw [if_neg (show ¬ τ 118 (gv (σ 8) i (r : Int)).toNat = 2 by rw [← es]; exact h3)]
          refine ⟨0, rfl, Or.inr ⟨rfl, fun z => ?_⟩⟩
          rcases z r (Nat.le_refl _) (by omega) h1 with y | y
          · omega
          · exact h3 y
    · simp only [if_neg h1]
      rw [if_pos trivial, if_pos trivial]
      exact ⟨b, q1, nx (Or.inr h1)⟩
/-- all sources done: the same in both -/
theorem sd_ls (H : RN m rec D σ τ) {i : Nat} (hi : i < m) : ∃ b1 b2 b : Int, f_Mach_isDone_3 (σ 12 i) σ = some (b1, σ) ∧ f_Mach_isDone_3 (σ 13 i) σ = some (b2, σ) ∧ f_M_areSourcesDone_84 (i : Int) τ = some (b, τ) ∧ (b = 0 ↔ (b1 = 0 ∨ b2 = 0)) ∧ (b ≠ 0 → sdn σ (σ 12 i) ∧ sdn σ (σ 13 i)) := by
  have hm := H.g.le
  obtain ⟨so1, so2⟩ := H.g.so i hi
  have s1 := src_r (σ 8) i (σ 9 i)
  have s2 := src_r (σ 8) i (σ 10 i)
  obtain ⟨b1, c1, c2⟩ := c_idn (σ := σ) (s := σ 12 i) (by omega)
  obtain ⟨b2, d1, d2⟩ := c_idn (σ := σ) (s := σ 13 i) (by omega)
  obtain ⟨b, e1, e2⟩ := m_asd H hi 8 0 4096 (by omega) (by omega)
  have hh : (∀ x : Nat, 0 ≤ x → x < 8 → (σ 9 i = (x : Int) ∨ σ 10 i = (x : Int)) → sdn σ (gv (σ 8) i (x : Int))) ↔ (sdn σ (σ 12 i) ∧ sdn σ (σ 13 i)) := by
    rw [so1, so2]
    unfold src
    constructor
    · intro z
      constructor
      · by_cases hr : 0 ≤ σ 9 i ∧ σ 9 i < 8
        · rw [if_pos hr]
          have := z (σ 9 i).toNat (by omega) (by omega) (Or.inl (by omega))
          rw [show (((σ 9 i).toNat : Nat) : Int) = σ 9 i by omega] at this
          exact this
        · rw [if_neg hr]
          exact Or.inl (by decide)
      · by_cases hr : 0 ≤ σ 10 i ∧ σ 10 i < 8
        · rw [if_pos hr]
          have := z (σ 10 i).toNat (by omega) (by omega) (Or.inr (by omega))
          rw [show (((σ 10 i).toNat : Nat) : Int) = σ 10 i by omega] at this
          exact this
        · rw [if_neg hr]
          exact Or.inl (by decide)
    · rintro ⟨z1, z2⟩ x - hx (h | h)
      · rw [h, if_pos (by omega)] at z1
        exact z1
      · rw [h, if_pos (by omega)] at z2
        exact z2
  refine ⟨b1, b2, b, c1, d1, e1, ?_, fun hb => ?_⟩
  · rcases e2 with ⟨x1, x2⟩ | ⟨x1, x2⟩
    · obtain ⟨y1, y2⟩ := hh.mp x2
      rcases c2 with ⟨z1, -⟩ | ⟨-, z1⟩
      · rcases d2 with ⟨z2, -⟩ | ⟨-, z2⟩
        · omega
        · exact absurd y2 z2
      · exact absurd y1 z1
    · refine ⟨fun _ => ?_, fun _ => x1⟩
      rcases c2 with ⟨z1, y1⟩ | ⟨z1, -⟩
      · rcases d2 with ⟨z2, y2⟩ | ⟨z2, -⟩
        · exact absurd (hh.mpr ⟨y1, y2⟩) x2
        · exact Or.inr z2
      · exact Or.inl z1
  · rcases e2 with ⟨x1, x2⟩ | ⟨x1, -⟩
    · exact hh.mp x2
    · exact absurd x1 hb
end FO
def lk (σ : pS) (S : Int) : Nat → Int
  | 0 => 0
  | k + 1 => if σ 5 k = 3 ∧ σ 31 k = S then (if σ 39 k = 2 then 0 else 1) else lk σ S k
def ud (σ : pS) (c : Nat) : Prop := ∃ k, k < c ∧ σ 5 k = 3 ∧ σ 39 k ≠ 2
theorem c_51z {σ : pS} {S : Int} : ∀ (c fu : Nat), c ≤ 20 → c < fu → f_Mach_mustWait_3_p51 fu 0 S ((c : Int) - 1) σ = some (lk σ S c, σ)
  | 0, fu, hc, hf => by
    obtain ⟨n, rfl⟩ : ∃ n, fu = n + 1 := ⟨fu - 1, by omega⟩
    show (if ((0 : Nat) : Int) - 1 < 0 then _ else _) = _
    rw [if_pos (by omega)]
    rfl
  | c + 1, fu, hc, hf => by
    obtain ⟨n, rfl⟩ : ∃ n, fu = n + 1 := ⟨fu - 1, by omega⟩
    have e : ((c + 1 : Nat) : Int) - 1 = (c : Int) := by omega
    have g : (0 : Int) ≤ (c : Int) ∧ (c : Int) < 20 := by omega
    have ih := c_51z (σ := σ) (S := S) c n (by omega) (by omega)
    rw [e]
    show (if (c : Int) < 0 then _ else _) = _
    rw [if_neg (by omega)]
    unfold f_Mach_mustWait_3_p90
    simp only [if_pos g, Int.toNat_natCast, pw_p (show c < 20 by omega) (show 20 ≤ 100000 by decide)]
    unfold lk
    by_cases h1 : σ 5 c = 3
    · rw [if_pos h1, if_pos trivial, if_pos trivial]
      by_cases h2 : σ 31 c = S
      · rw [if_pos h2, if_pos (show σ 5 c = 3 ∧ σ 31 c = S from ⟨h1, h2⟩)]
        by_cases h3 : σ 39 c = 2
        · rw [if_pos h3, if_pos h3]
        · rw [if_neg h3, if_neg h3]
      · rw [if_neg h2, if_neg (fun z => h2 z.2)]
        exact ih
    · rw [if_neg h1, if_neg (fun z => h1 z.1)]
      exact ih
theorem c_51o {σ : pS} {S : Int} : ∀ (c fu : Nat), c ≤ 20 → c < fu → ∃ b : Int, f_Mach_mustWait_3_p51 fu 1 S ((c : Int) - 1) σ = some (b, σ) ∧ ((b = 1 ∧ ud σ c) ∨ (b = 0 ∧ ¬ ud σ c))
  | 0, fu, hc, hf => by
    obtain ⟨n, rfl⟩ : ∃ n, fu = n + 1 := ⟨fu - 1, by omega⟩
    refine ⟨0, ?_, Or.inr ⟨rfl, ?_⟩⟩
    · show (if ((0 : Nat) : Int) - 1 < 0 then _ else _) = _
      rw [if_pos (by omega)]
    · rintro ⟨k, h, -⟩
      omega
  | c + 1, fu, hc, hf => by
    obtain ⟨n, rfl⟩ : ∃ n, fu = n + 1 := ⟨fu - 1, by omega⟩
    have e : ((c + 1 : Nat) : Int) - 1 = (c : Int) := by omega
    have g : (0 : Int) ≤ (c : Int) ∧ (c : Int) < 20 := by omega
    obtain ⟨b, q1, q2⟩ := c_51o (σ := σ) (S := S) c n (by omega) (by omega)
    have nx : ¬ (σ 5 c = 3 ∧ σ 39 c ≠ 2) → ((b = 1 ∧ ud σ (c + 1)) ∨ (b = 0 ∧ ¬ ud σ (c + 1))) := fun hn => by
      rcases q2 with ⟨b1, k, k1, k2⟩ | ⟨b1, b2⟩
      · exact Or.inl ⟨b1, k, by omega, k2⟩
      · refine Or.inr ⟨b1, ?_⟩
        rintro ⟨k, k1, k2⟩
        by_cases hk : k = c
        · rw [hk] at k2
          exact hn k2
        · exact b2 ⟨k, by omega, k2⟩
    rw [e]
    show ∃ b : Int, (if (c : Int) < 0 then _ else _) = _ ∧ _
    rw [if_neg (by omega)]
    unfold f_Mach_mustWait_3_p90
    simp only [if_pos g, Int.toNat_natCast, pw_p (show c < 20 by omega) (show 20 ≤ 100000 by decide), if_neg (show ¬ ((1 : Int) = 0) by decide)]
    by_cases h1 : σ 5 c = 3
    · rw [if_pos h1]
      by_cases h3 : σ 39 c = 2
      · rw [if_pos h3]
        exact ⟨b, q1, nx (fun z => z.2 h3)⟩
      · rw [if_neg h3]
        exact ⟨1, rfl, Or.inl ⟨rfl, c, by omega, h1, h3⟩⟩
    · rw [if_neg h1]
      exact ⟨b, q1, nx (fun z => h1 z.1)⟩
section KW
variable {m : Nat} {rec : Nat → O8} {D : Nat → Prop} {σ τ : pS}
theorem m_47 (H : RN m rec D σ τ) {i : Nat} (hi : i < m) : ∀ (c fu : Nat), c ≤ m → c < fu → f_M_isKeptBack_84_p47 fu (i : Int) ((c : Int) - 1) τ = some (lk σ (σ 31 i) c, τ)
  | 0, fu, hc, hf => by
    obtain ⟨n, rfl⟩ : ∃ n, fu = n + 1 := ⟨fu - 1, by omega⟩
    show (if ((0 : Nat) : Int) - 1 < 0 then _ else _) = _
    rw [if_pos (by omega)]
    rfl
  | c + 1, fu, hc, hf => by
    obtain ⟨n, rfl⟩ : ∃ n, fu = n + 1 := ⟨fu - 1, by omega⟩
    have hm := H.g.le
    have e : ((c + 1 : Nat) : Int) - 1 = (c : Int) := by omega
    have g : (0 : Int) ≤ (c : Int) ∧ (c : Int) < 20 := by omega
    have gi : (0 : Int) ≤ (i : Int) ∧ (i : Int) < 20 := by omega
    have ih := m_47 H hi c n (by omega) (by omega)
    have k1 := (H.g.kd (show c < m by omega)).1
    have k2 := (H.r.se c (by omega)).1
    have k3 := (H.r.se i hi).1
    have k4 := (H.r.st c (by omega)).1
    rw [e]
    show (if (c : Int) < 0 then _ else _) = _
    rw [if_neg (by omega)]
    simp only [if_pos g, if_pos gi, Int.toNat_natCast, pw_p (show c < 20 by omega) (show 20 ≤ 100000 by decide), k1, ← k2, ← k3, ← k4]
    unfold lk
    by_cases h1 : σ 5 c = 3
    · rw [if_pos h1]
      by_cases h2 : σ 31 c = σ 31 i
      · rw [if_pos h2, if_pos (show σ 5 c = 3 ∧ σ 31 c = σ 31 i from ⟨h1, h2⟩)]
        by_cases h3 : σ 39 c = 2
        · rw [if_pos h3, if_pos h3]
        · rw [if_neg h3, if_neg h3]
      · rw [if_neg h2, if_neg (fun z => h2 z.2)]
        exact ih
    · rw [if_neg h1, if_neg (fun z => h1 z.1)]
      exact ih
theorem m_std (H : RN m rec D σ τ) {i : Nat} (hi : i ≤ m) : ∀ (d k fu : Nat), k + d = i → d < fu → ∃ b : Int, f_M_areStoresDone_84_p2 fu (i : Int) (k : Int) τ = some (b, τ) ∧ ((b = 0 ∧ ∃ x, k ≤ x ∧ x < i ∧ σ 5 x = 3 ∧ σ 39 x ≠ 2) ∨ (b = 1 ∧ ¬ ∃ x, k ≤ x ∧ x < i ∧ σ 5 x = 3 ∧ σ 39 x ≠ 2))
  | 0, k, fu, hk, hf => by
    obtain ⟨n, rfl⟩ : ∃ n, fu = n + 1 := ⟨fu - 1, by omega⟩
    refine ⟨1, ?_, Or.inr ⟨rfl, ?_⟩⟩
    · show (if (i : Int) ≤ (k : Int) then _ else _) = _
      rw [if_pos (by omega)]
    · rintro ⟨x, h1, h2, -⟩
      omega
  | d + 1, k, fu, hk, hf => by
    obtain ⟨n, rfl⟩ : ∃ n, fu = n + 1 := ⟨fu - 1, by omega⟩
    have hm := H.g.le
    have g : (0 : Int) ≤ (k : Int) ∧ (k : Int) < 20 := by omega
    obtain ⟨b, q1, q2⟩ := m_std H hi d (k + 1) n (by omega) (by omega)
    have k1 := (H.g.kd (show k < m by omega)).1
    have k4 := (H.r.st k (by omega)).1
    have nx : ¬ (σ 5 k = 3 ∧ σ 39 k ≠ 2) → ((b = 0 ∧ ∃ x, k ≤ x ∧ x < i ∧ σ 5 x = 3 ∧ σ 39 x ≠ 2) ∨ (b = 1 ∧ ¬ ∃ x, k ≤ x ∧ x < i ∧ σ 5 x = 3 ∧ σ 39 x ≠ 2)) := fun hn => by
      rcases q2 with ⟨b1, x, x1, x2⟩ | ⟨b1, b2⟩
      · exact Or.inl ⟨b1, x, by omega, x2⟩
      · refine Or.inr ⟨b1, ?_⟩
        rintro ⟨x, x1, x2, x3⟩
        by_cases hx : x = k
        · rw [hx] at x3
          exact hn x3
        · exact b2 ⟨x, by omega, x2, x3⟩
    show ∃ b : Int, (if (i : Int) ≤ (k : Int) then _ else _) = _ ∧ _
    rw [if_neg (by omega)]
    simp only [if_pos g, Int.toNat_natCast, pw_s (show k < 20 by omega) (show 20 ≤ 100000 by decide), k1, ← k4]
    by_cases h1 : σ 5 k = 3
    · rw [if_pos h1]
      by_cases h3 : σ 39 k = 2
      · rw [if_pos h3]
        exact ⟨b, q1, nx (fun z => z.2 h3)⟩
      · rw [if_neg h3]
        exact ⟨0, rfl, Or.inl ⟨rfl, k, Nat.le_refl _, by omega, h1, h3⟩⟩
    · rw [if_neg h1]
      exact ⟨b, q1, nx (fun z => h1 z.1)⟩
/-- must it wait: the same in both -/
theorem kw_ls (H : RN m rec D σ τ) {i : Nat} (hi : i < m) {lw : Int} (hl : lw = 0 ∨ lw = 1) (h70 : τ 84 70 = lw) : ∃ b, f_Mach_mustWait_3 (i : Int) lw σ = some (b, σ) ∧ f_M_isKeptBack_84 (i : Int) τ = some (b, τ) := by
  have hm := H.g.le
  have g : (0 : Int) ≤ (i : Int) ∧ (i : Int) < 20 := by omega
  have k1 := (H.g.kd hi).1
  have k3 := (H.r.se i hi).1
  have ep : pw ((i : Int) - 1) = (i : Int) - 1 := pw_id (by omega) (by omega)
  have eX : f_Mach_mustWait_3_p21 (i : Int) σ = some (if σ 31 i = -1 then 0 else lk σ (σ 31 i) i, σ) := by
    unfold f_Mach_mustWait_3_p21 f_Mach_mustWait_3_p22
    simp only [if_pos g, Int.toNat_natCast, ep]
    rw [if_pos trivial]
    by_cases z : σ 31 i = -1
    · rw [if_pos z, if_pos z]
    · rw [if_neg z, if_neg z]
      exact c_51z i 4096 (by omega) (by omega)
  have eM : f_M_isKeptBack_84_p31 (i : Int) τ = some (if σ 31 i = -1 then 0 else lk σ (σ 31 i) i, τ) := by
    unfold f_M_isKeptBack_84_p31
    rw [if_pos g, Int.toNat_natCast, ep]
    by_cases z : σ 31 i = -1
    · rw [if_pos (by rw [← k3]; exact z), if_pos z]
    · rw [if_neg (by rw [← k3]; exact z), if_neg z]
      exact m_47 H hi i 4096 (by omega) (by omega)
  unfold f_Mach_mustWait_3 f_M_isKeptBack_84
  rw [h70]
  by_cases z : lw = 0
  · rw [if_pos z, if_pos z, eX, eM]
    exact ⟨_, rfl, rfl⟩
  · rw [if_neg z, if_neg z, if_pos g, if_pos g, Int.toNat_natCast, k1]
    by_cases z2 : σ 5 i = 2
    · rw [if_pos z2, if_pos z2]
      obtain ⟨b, q1, q2⟩ := c_51o (σ := σ) (S := σ 31 i) i 4096 (by omega) (by omega)
      obtain ⟨b', r1, r2⟩ := m_std H (Nat.le_of_lt hi) i 0 4096 (by omega) (by omega)
      have e22 : f_Mach_mustWait_3_p22 (i : Int) 1 σ = some (b, σ) := by
        unfold f_Mach_mustWait_3_p22
        rw [if_pos g, if_neg (by decide), Int.toNat_natCast, ep]
        exact q1
      have eS : f_M_areStoresDone_84 (i : Int) τ = some (b', τ) := r1
      rw [e22, eS, Option.bind_some]
      dsimp only
      refine ⟨b, rfl, ?_⟩
      rcases q2 with ⟨b1, x, x1, x2⟩ | ⟨b1, b2⟩
      · rcases r2 with ⟨c1, -⟩ | ⟨c1, c2⟩
        · rw [if_pos c1, b1]
        · exact absurd ⟨x, by omega, x1, x2⟩ c2
      · rcases r2 with ⟨c1, x, x1, x2, x3⟩ | ⟨c1, c2⟩
        · exact absurd ⟨x, x2, x3⟩ b2
        · rw [if_neg (by omega), b1]
    · rw [if_neg z2, if_neg z2, eX, eM]
      exact ⟨_, rfl, rfl⟩
end KW
