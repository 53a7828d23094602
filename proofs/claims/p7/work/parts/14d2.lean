/-- the reference marks one as waiting -/
def mm1 (j : Nat) (τ : pS) : pS := pU (pU (pU τ 118 j 0) 123 j (pw (τ 123 j + 1))) 84 65 (pw (τ 84 65 + 1))
def mMk (j : Nat) (τ : pS) : Option pS := if τ 88 j = 3 then (if τ 126 j = 0 then some (mm1 j τ) else (f_M_undoesTo_84 (j : Int) (mm1 j τ)).map (fun q => q.2)) else some (mm1 j τ)
def P_mw (k x : Nat) : Prop := P_un k x ∨ k = 39 ∨ k = 35 ∨ (k = 33 ∧ x = 2)
def Q_mw (k x : Nat) : Prop := Q_un k x ∨ k = 118 ∨ k = 123 ∨ (k = 84 ∧ x = 65)
theorem P_mw_N (k x : Nat) (h : P_mw k x) : PN k x := by unfold P_mw P_un at h; unfold PN; omega
theorem Q_mw_N (k x : Nat) (h : Q_mw k x) : QN k x := by unfold Q_mw Q_un at h; unfold QN; omega
/-- one that is retired is done -/
def T2 (m : Nat) (σ : pS) : Prop := ∀ j, j < m → σ 41 j = 1 → σ 39 j = 2
theorem mw_ls {m : Nat} {rec : Nat → O8} {D : Nat → Prop} {j : Nat} {σ τ : pS} (hG : PG m rec σ τ) (h : RM m D σ τ) (hT : T2 m σ) (hj : j < m) : ∃ σ' τ', f_Mach_makeWait_3 (j : Int) σ = some (0, σ') ∧ mMk j τ = some τ' ∧ RM m D σ' τ' ∧ T2 m σ' ∧ FR P_mw σ σ' ∧ FR Q_mw τ τ' ∧ (∀ k, σ' 39 k = if k = j then 0 else σ 39 k) ∧ (∀ k, τ' 118 k = if k = j then 0 else τ 118 k) := by
  have hm := hG.le
  have g : (0 : Int) ≤ (j : Int) ∧ (j : Int) < 20 := by omega
  have hk := hG.kd hj
  have hr := h.rt j hj
  generalize hσ1 : pU (pU (pU σ 39 j 0) 35 j (pw (σ 35 j + 1))) 33 2 (pw (σ 33 2 + 1)) = σ1
  have eX : f_Mach_makeWait_3 (j : Int) σ = (if σ 41 j = 0 then some (0, σ1) else (f_Mach_undoDownTo_3 (j : Int) σ1).bind fun q6 => some (0, q6.2)) := by
    unfold f_Mach_makeWait_3
    rw [if_pos g, if_pos g, if_pos g, if_pos g, Int.toNat_natCast, hσ1]
  have a0 : FR P_mw σ (pU σ 39 j 0) := FR.u (Or.inr (Or.inl rfl))
  have a1 : FR P_mw (pU σ 39 j 0) (pU (pU σ 39 j 0) 35 j (pw (σ 35 j + 1))) := FR.u (Or.inr (Or.inr (Or.inl rfl)))
  have a2 : FR P_mw (pU (pU σ 39 j 0) 35 j (pw (σ 35 j + 1))) σ1 := by rw [← hσ1]; exact FR.u (Or.inr (Or.inr (Or.inr ⟨rfl, rfl⟩)))
  have b0 : FR Q_mw τ (pU τ 118 j 0) := FR.u (Or.inr (Or.inl rfl))
  have b1 : FR Q_mw (pU τ 118 j 0) (pU (pU τ 118 j 0) 123 j (pw (τ 123 j + 1))) := FR.u (Or.inr (Or.inr (Or.inl rfl)))
  have b2 : FR Q_mw (pU (pU τ 118 j 0) 123 j (pw (τ 123 j + 1))) (mm1 j τ) := FR.u (Or.inr (Or.inr (Or.inr ⟨rfl, rfl⟩)))
  have f1 : FR P_mw σ σ1 := (a0.tr a1).tr a2
  have f2 : FR Q_mw τ (mm1 j τ) := (b0.tr b1).tr b2
  have h0 := h.sst0 (σ' := pU σ 39 j 0) (τ' := pU τ 118 j 0) (FR.u rfl) (FR.u rfl) (fun k hk => by
    by_cases hkj : k = j
    · rw [hkj, pU_s, pU_s]
      exact ⟨rfl, Or.inl rfl⟩
    · rw [pU_i _ _ _ _ hkj, pU_i _ _ _ _ hkj]
      exact ⟨(h.st k hk).1, Or.inr rfl⟩)
  have h1 := h0.srp (σ' := pU (pU σ 39 j 0) 35 j (pw (σ 35 j + 1))) (τ' := pU (pU τ 118 j 0) 123 j (pw (τ 123 j + 1))) (FR.u rfl) (FR.u rfl) (fun k hk => by
    by_cases hkj : k = j
    · rw [hkj, pU_s, pU_s, h.rp j hj]
    · rw [pU_i (pU σ 39 j 0) 35 _ 35 hkj, pU_i (pU τ 118 j 0) 123 _ 123 hkj]
      exact h0.rp k hk)
  have h2 : RM m D σ1 (mm1 j τ) := by
    rw [← hσ1]
    exact h1.scr (FR.u ⟨rfl, rfl⟩) (FR.u ⟨rfl, rfl⟩) (by unfold mm1; rw [pU_s, pU_s, h.cr])
  have s39 : ∀ k, σ1 39 k = if k = j then 0 else σ 39 k := fun k => by
    rw [← hσ1, pU_c _ _ _ _ (by decide), pU_c _ _ _ _ (by decide)]
    by_cases hkj : k = j
    · rw [hkj, pU_s, if_pos rfl]
    · rw [pU_i _ _ _ _ hkj, if_neg hkj]
  have s118 : ∀ k, mm1 j τ 118 k = if k = j then 0 else τ 118 k := fun k => by
    unfold mm1
    rw [pU_c _ _ _ _ (by decide), pU_c _ _ _ _ (by decide)]
    by_cases hkj : k = j
    · rw [hkj, pU_s, if_pos rfl]
    · rw [pU_i _ _ _ _ hkj, if_neg hkj]
  have s41 : ∀ k, σ1 41 k = σ 41 k := fun k => by rw [← hσ1, pU_c _ _ _ _ (by decide), pU_c _ _ _ _ (by decide), pU_c _ _ _ _ (by decide)]
  rw [eX]
  unfold mMk
  by_cases hz : σ 41 j = 0
  · rw [if_pos hz, ← hr.1, if_pos hz]
    refine ⟨σ1, mm1 j τ, rfl, by split <;> rfl, h2, fun k hk q => ?_, f1, f2, s39, s118⟩
    rw [s41] at q
    have hkj : k ≠ j := fun e => by rw [e, hz] at q; exact absurd q (by decide)
    rw [s39, if_neg hkj]
    exact hT k hk q
  · have hre := h.re j hj (by omega)
    have hG2 := hG.fr (f1.mono P_mw_N) (f2.mono Q_mw_N)
    obtain ⟨σ', τ', q1, q2, q3, q4, q5, q6⟩ := un_ls (i := j) hG2 h2
    rw [if_neg hz, q1, Option.bind_some, if_pos (by omega), ← hr.1, if_neg hz, q2]
    refine ⟨σ', τ', rfl, rfl, q3, fun k hk q => ?_, f1.tr (q4.mono (fun k x hh => Or.inl hh)), f2.tr (q5.mono (fun k x hh => Or.inl hh)), fun k => (q4.get (by unfold P_un; omega)).trans (s39 k), fun k => (q5.get (by unfold Q_un; omega)).trans (s118 k)⟩
    rw [q6 k] at q
    by_cases hjk : j ≤ k ∧ k < m
    · rw [if_pos hjk] at q
      omega
    · rw [if_neg hjk, s41] at q
      rw [q4.get (by unfold P_un; omega), s39, if_neg (by omega)]
      exact hT k hk q
/-- the list of the reference laid over a store -/
def ov (τ : pS) (L : Nat → Int) (n : Int) : pS := fun k x => if k = 131 then L x else if k = 84 ∧ x = 72 then n else τ k x
theorem ov_pU (τ : pS) (L : Nat → Int) (n : Int) {j i : Nat} (v : Int) (h1 : j ≠ 131) (h2 : ¬ (j = 84 ∧ i = 72)) : pU (ov τ L n) j i v = ov (pU τ j i v) L n := by
  funext k x
  show (if k = j ∧ x = i then v else (if k = 131 then L x else if k = 84 ∧ x = 72 then n else τ k x)) = (if k = 131 then L x else if k = 84 ∧ x = 72 then n else (if k = j ∧ x = i then v else τ k x))
  by_cases hk : k = j ∧ x = i
  · rw [if_pos hk, if_neg (by omega), if_neg (by omega), if_pos hk]
  · rw [if_neg hk]
    by_cases h3 : k = 131
    · rw [if_pos h3, if_pos h3]
    · rw [if_neg h3, if_neg h3]
      by_cases h4 : k = 84 ∧ x = 72
      · rw [if_pos h4, if_pos h4]
      · rw [if_neg h4, if_neg h4, if_neg hk]
theorem ov_g (τ : pS) (L : Nat → Int) (n : Int) {k x : Nat} (h1 : k ≠ 131) (h2 : ¬ (k = 84 ∧ x = 72)) : ov τ L n k x = τ k x := by
  unfold ov
  rw [if_neg h1, if_neg h2]
theorem un26_ov {L : Nat → Int} {n : Int} {K1 K2 : Int → Int → pS → Option (Int × pS)} (hK : ∀ a b τ, K2 a b (ov τ L n) = (K1 a b τ).map (fun q => (q.1, ov q.2 L n))) : ∀ (fu : Nat) (a b c : Int) (τ : pS), f_M_undoesTo_84_p26 K2 fu a b c (ov τ L n) = (f_M_undoesTo_84_p26 K1 fu a b c τ).map (fun q => (q.1, ov q.2 L n))
  | 0, a, b, c, τ => rfl
  | fu + 1, a, b, c, τ => by
    have e93 : ov τ L n 93 b.toNat = τ 93 b.toNat := ov_g _ _ _ (by decide) (by omega)
    have e132 : ov τ L n 132 b.toNat = τ 132 b.toNat := ov_g _ _ _ (by decide) (by omega)
    have e67 : ov τ L n 84 67 = τ 84 67 := ov_g _ _ _ (by decide) (by omega)
    show (if 0 ≤ b ∧ b < 20 then _ else _) = Option.map _ (if 0 ≤ b ∧ b < 20 then _ else _)
    by_cases g : 0 ≤ b ∧ b < 20
    · rw [if_pos g, if_pos g, e93]
      by_cases g2 : τ 93 b.toNat ≤ c
      · rw [if_pos g2, if_pos g2, if_pos g, if_pos g, e67, ov_pU _ _ _ _ (by decide) (by omega), ov_pU _ _ _ _ (by decide) (by omega)]
        exact hK _ _ _
      · simp only [if_neg g2, if_pos g, e132]
        by_cases g3 : 0 ≤ (pw ((pw (4 * b)) + c)) ∧ (pw ((pw (4 * b)) + c)) < 80
        · rw [if_pos g3, if_pos g3, if_pos (pAnd_63 _), if_pos (pAnd_63 _), ov_g _ _ _ (k := 125) (by decide) (by omega), ov_pU _ _ _ _ (by decide) (by omega)]
          exact un26_ov hK fu _ _ _ _
        · rw [if_neg g3, if_neg g3]
          rfl
    · rw [if_neg g, if_neg g]
      rfl
theorem un7_ov {L : Nat → Int} {n : Int} : ∀ (fu : Nat) (a b : Int) (τ : pS), f_M_undoesTo_84_p7 fu a b (ov τ L n) = (f_M_undoesTo_84_p7 fu a b τ).map (fun q => (q.1, ov q.2 L n))
  | 0, a, b, τ => rfl
  | fu + 1, a, b, τ => by
    show (if b < a then _ else _) = Option.map _ (if b < a then _ else _)
    by_cases g0 : b < a
    · rw [if_pos g0, if_pos g0]
      rfl
    · rw [if_neg g0, if_neg g0]
      by_cases g : 0 ≤ b ∧ b < 20
      · rw [if_pos g, if_pos g, ov_g _ _ _ (k := 126) (by decide) (by omega)]
        by_cases g2 : τ 126 b.toNat = 0
        · rw [if_pos g2, if_pos g2]
          exact un7_ov fu _ _ _
        · rw [if_neg g2, if_neg g2]
          exact un26_ov (un7_ov fu) _ _ _ _ _
      · rw [if_neg g, if_neg g]
        rfl
theorem mMk_ov (j : Nat) (τ : pS) (L : Nat → Int) (n : Int) : mMk j (ov τ L n) = (mMk j τ).map (fun t => ov t L n) := by
  have e1 : mm1 j (ov τ L n) = ov (mm1 j τ) L n := by
    unfold mm1
    rw [ov_g _ _ _ (k := 123) (by decide) (by omega), ov_g _ _ _ (k := 84) (x := 65) (by decide) (by omega), ov_pU _ _ _ _ (by decide) (by omega), ov_pU _ _ _ _ (by decide) (by omega), ov_pU _ _ _ _ (by decide) (by omega)]
  unfold mMk
  rw [e1, ov_g _ _ _ (k := 88) (by decide) (by omega), ov_g _ _ _ (k := 126) (by decide) (by omega)]
  by_cases h1 : τ 88 j = 3
  · rw [if_pos h1, if_pos h1]
    by_cases h2 : τ 126 j = 0
    · rw [if_pos h2, if_pos h2]
      rfl
    · rw [if_neg h2, if_neg h2]
      unfold f_M_undoesTo_84
      rw [ov_g _ _ _ (k := 84) (x := 2) (by decide) (by omega), un7_ov]
      cases f_M_undoesTo_84_p7 4096 (j : Int) (pw (mm1 j τ 84 2 - 1)) (mm1 j τ) <;> rfl
  · rw [if_neg h1, if_neg h1]
    rfl
/-- several marked, one behind the other -/
def mks : List Nat → pS → Option pS
  | [], τ => some τ
  | j :: Q, τ => (mMk j τ).bind (mks Q)
theorem mks_app : ∀ (A B : List Nat) (τ : pS), mks (A ++ B) τ = (mks A τ).bind (mks B)
  | [], B, τ => rfl
  | a :: A, B, τ => by
    show (mMk a τ).bind (mks (A ++ B)) = ((mMk a τ).bind (mks A)).bind (mks B)
    cases mMk a τ with
    | none => rfl
    | some t => exact mks_app A B t
theorem mks_ov (L : Nat → Int) (n : Int) : ∀ (Q : List Nat) (τ : pS), mks Q (ov τ L n) = (mks Q τ).map (fun t => ov t L n)
  | [], τ => rfl
  | j :: Q, τ => by
    show (mMk j (ov τ L n)).bind (mks Q) = ((mMk j τ).bind (mks Q)).map _
    rw [mMk_ov]
    cases mMk j τ with
    | none => rfl
    | some t => exact mks_ov L n Q t
/-- those of k, k + 1, .. (d of them) for which p holds -/
def Fl (p : Nat → Prop) : Nat → Nat → List Nat → Prop
  | _, 0, l => l = []
  | k, d + 1, l => (p k ∧ ∃ l', l = k :: l' ∧ Fl p (k + 1) d l') ∨ (¬ p k ∧ Fl p (k + 1) d l)
theorem Fl.nil {p : Nat → Prop} (k : Nat) : Fl p k 0 [] := rfl
theorem Fl.yes {p : Nat → Prop} {k d : Nat} {l : List Nat} (h : p k) (h2 : Fl p (k + 1) d l) : Fl p k (d + 1) (k :: l) := Or.inl ⟨h, l, rfl, h2⟩
theorem Fl.no {p : Nat → Prop} {k d : Nat} {l : List Nat} (h : ¬ p k) (h2 : Fl p (k + 1) d l) : Fl p k (d + 1) l := Or.inr ⟨h, h2⟩
theorem Fl.iv0 {p : Nat → Prop} {k : Nat} {l : List Nat} (h : Fl p k 0 l) : l = [] := h
theorem Fl.iv {p : Nat → Prop} {k d : Nat} {l : List Nat} (h : Fl p k (d + 1) l) : (p k ∧ ∃ l', l = k :: l' ∧ Fl p (k + 1) d l') ∨ (¬ p k ∧ Fl p (k + 1) d l) := h
theorem Fl.cg {p p' : Nat → Prop} : ∀ {d k : Nat} {l : List Nat}, Fl p k d l → (∀ x, k ≤ x → x < k + d → (p x ↔ p' x)) → Fl p' k d l
  | 0, k, l, h, _ => by rw [h.iv0]; exact .nil k
  | d + 1, k, l, h, e => by
    rcases h.iv with ⟨h1, l', rfl, h2⟩ | ⟨h1, h2⟩
    · exact .yes ((e k (Nat.le_refl _) (by omega)).mp h1) (h2.cg (fun x a b => e x (by omega) (by omega)))
    · exact .no (fun q => h1 ((e k (Nat.le_refl _) (by omega)).mpr q)) (h2.cg (fun x a b => e x (by omega) (by omega)))
theorem Fl.mem {p : Nat → Prop} : ∀ {d k : Nat} {l : List Nat}, Fl p k d l → ∀ x, x ∈ l ↔ (k ≤ x ∧ x < k + d ∧ p x)
  | 0, k, l, h, x => by
    rw [h.iv0]
    constructor
    · intro q
      cases q
    · rintro ⟨a, b, -⟩
      omega
  | d + 1, k, l, h, x => by
    rcases h.iv with ⟨h1, l', rfl, h2⟩ | ⟨h1, h2⟩
    · rw [List.mem_cons, h2.mem x]
      constructor
      · rintro (rfl | ⟨a, b, c⟩)
        · exact ⟨Nat.le_refl _, by omega, h1⟩
        · exact ⟨by omega, by omega, c⟩
      · rintro ⟨a, b, c⟩
        by_cases hx : x = k
        · exact Or.inl hx
        · exact Or.inr ⟨by omega, by omega, c⟩
    · rw [h2.mem x]
      constructor
      · rintro ⟨a, b, c⟩
        exact ⟨by omega, by omega, c⟩
      · rintro ⟨a, b, c⟩
        refine ⟨?_, by omega, c⟩
        by_cases hx : x = k
        · rw [hx] at c
          exact absurd c h1
        · omega
theorem Fl.len {p : Nat → Prop} : ∀ {d k : Nat} {l : List Nat}, Fl p k d l → l.length ≤ d
  | 0, k, l, h => by rw [h.iv0]; exact Nat.le_refl _
  | d + 1, k, l, h => by
    rcases h.iv with ⟨h1, l', rfl, h2⟩ | ⟨h1, h2⟩
    · have := h2.len
      show _ + 1 ≤ d + 1
      omega
    · have := h2.len
      omega
theorem Fl.nd {p : Nat → Prop} : ∀ {d k : Nat} {l : List Nat}, Fl p k d l → l.Nodup
  | 0, k, l, h => by rw [h.iv0]; exact List.nodup_nil
  | d + 1, k, l, h => by
    rcases h.iv with ⟨h1, l', rfl, h2⟩ | ⟨h1, h2⟩
    · refine List.nodup_cons.mpr ⟨fun q => ?_, h2.nd⟩
      have := (h2.mem k).mp q
      omega
    · exact h2.nd
theorem nd_le : ∀ (n : Nat) (l : List Nat), l.Nodup → (∀ x ∈ l, x < n) → l.length ≤ n
  | 0, l, _, h => by
    cases l with
    | nil => exact Nat.le_refl _
    | cons a l => exact absurd (h a List.mem_cons_self) (Nat.not_lt_zero _)
  | n + 1, l, hn, h => by
    by_cases hm : n ∈ l
    · have h1 := nd_le n (l.erase n) (hn.erase n) (fun x hx => by
        have a := (hn.mem_erase_iff).mp hx
        have := h x a.2
        have := a.1
        omega)
      rw [List.length_erase_of_mem hm] at h1
      omega
    · have h1 := nd_le n l hn (fun x hx => by
        have := h x hx
        have : x ≠ n := fun e => hm (e ▸ hx)
        omega)
      omega
/-- the first of each in a list, those of S left out -/
def FO : (Nat → Prop) → List Nat → List Nat → Prop
  | _, [], Q => Q = []
  | S, x :: R, Q => (S x ∧ FO S R Q) ∨ (¬ S x ∧ ∃ Q', Q = x :: Q' ∧ FO (fun y => S y ∨ y = x) R Q')
theorem FO.nil (S : Nat → Prop) : FO S [] [] := rfl
theorem FO.skip {S : Nat → Prop} {x : Nat} {R Q : List Nat} (h : S x) (h2 : FO S R Q) : FO S (x :: R) Q := Or.inl ⟨h, h2⟩
theorem FO.take {S : Nat → Prop} {x : Nat} {R Q : List Nat} (h : ¬ S x) (h2 : FO (fun y => S y ∨ y = x) R Q) : FO S (x :: R) (x :: Q) := Or.inr ⟨h, Q, rfl, h2⟩
theorem FO.iv0 {S : Nat → Prop} {Q : List Nat} (h : FO S [] Q) : Q = [] := h
theorem FO.iv {S : Nat → Prop} {x : Nat} {R Q : List Nat} (h : FO S (x :: R) Q) : (S x ∧ FO S R Q) ∨ (¬ S x ∧ ∃ Q', Q = x :: Q' ∧ FO (fun y => S y ∨ y = x) R Q') := h
theorem FO.cg {S S' : Nat → Prop} {R Q : List Nat} (h : FO S R Q) (e : ∀ y, S y ↔ S' y) : FO S' R Q := by
  have : S = S' := funext (fun y => propext (e y))
  rw [← this]
  exact h
theorem FO_b {p p' : Nat → Prop} : ∀ {d k : Nat} {A B : List Nat} {S : Nat → Prop}, Fl p k d A → Fl p' k d B → (∀ x, k ≤ x → x < k + d → (p' x ↔ (p x ∧ ¬ S x))) → FO S A B
  | 0, k, A, B, S, h1, h2, e => by rw [h1.iv0, h2.iv0]; exact .nil S
  | d + 1, k, A, B, S, h1, h2, e => by
    have ek := e k (Nat.le_refl _) (by omega)
    rcases h1.iv with ⟨a1, A', rfl, a2⟩ | ⟨a1, a2⟩
    · rcases h2.iv with ⟨b1, B', rfl, b2⟩ | ⟨b1, b2⟩
      · exact .take (ek.mp b1).2 (FO_b a2 b2 (fun x q1 q2 => by
          rw [e x (by omega) (by omega)]
          constructor
          · rintro ⟨c1, c2⟩
            exact ⟨c1, fun q => q.elim c2 (fun q => by omega)⟩
          · rintro ⟨c1, c2⟩
            exact ⟨c1, fun q => c2 (Or.inl q)⟩))
      · have hS : S k := Classical.byContradiction (fun q => b1 (ek.mpr ⟨a1, q⟩))
        exact .skip hS (FO_b a2 b2 (fun x q1 q2 => e x (by omega) (by omega)))
    · rcases h2.iv with ⟨b1, B', rfl, b2⟩ | ⟨b1, b2⟩
      · exact absurd (ek.mp b1).1 a1
      · exact FO_b a2 b2 (fun x q1 q2 => e x (by omega) (by omega))
theorem FO_app {p p' : Nat → Prop} {d k : Nat} {A B : List Nat} : ∀ {S : Nat → Prop} {R Q : List Nat}, FO S R Q → Fl p k d A → Fl p' k d B → (∀ x, k ≤ x → x < k + d → (p' x ↔ (p x ∧ ¬ S x ∧ x ∉ Q))) → FO S (R ++ A) (Q ++ B) := by
  intro S R
  induction R generalizing S with
  | nil =>
    intro Q h h1 h2 e
    rw [h.iv0] at e ⊢
    exact FO_b h1 h2 (fun x a b => by
      rw [e x a b]
      constructor
      · rintro ⟨c1, c2, -⟩
        exact ⟨c1, c2⟩
      · rintro ⟨c1, c2⟩
        exact ⟨c1, c2, List.not_mem_nil⟩)
  | cons y R ih =>
    intro Q h h1 h2 e
    rcases h.iv with ⟨hS, h'⟩ | ⟨hS, Q', rfl, h'⟩
    · exact .skip hS (ih h' h1 h2 e)
    · refine .take hS (ih h' h1 h2 (fun x a b => ?_))
      rw [e x a b]
      constructor
      · rintro ⟨c1, c2, c3⟩
        rw [List.mem_cons] at c3
        exact ⟨c1, fun q => q.elim c2 (fun q => c3 (Or.inl q)), fun q => c3 (Or.inr q)⟩
      · rintro ⟨c1, c2, c3⟩
        refine ⟨c1, fun q => c2 (Or.inl q), fun q => ?_⟩
        rw [List.mem_cons] at q
        exact q.elim (fun q => c2 (Or.inr q)) c3
/-- k rests on j, in the class's store -/
def tkf (σ : pS) (k : Nat) (j : Int) (a : Nat) : Prop := ∃ e : Nat, a ≤ e ∧ (e : Int) < σ 7 k ∧ σ 38 (4 * k + e) = j
def dep (σ : pS) (k j : Nat) : Prop := σ 12 k = (j : Int) ∨ σ 13 k = (j : Int) ∨ (σ 5 k = 2 ∧ σ 39 k = 2 ∧ tkf σ k (j : Int) 0)
theorem c_d55 {σ : pS} {k : Nat} {j : Int} (hk : k < 20) {s : Nat} (hs : σ 7 k = (s : Int)) (hs4 : s ≤ 4) : ∀ (d a fu : Nat), a + d = s → d < fu → ∃ b : Int, f_Mach_dependsOn_3_p55 fu (k : Int) j (a : Int) σ = some (b, σ) ∧ ((b = 1 ∧ tkf σ k j a) ∨ (b = 0 ∧ ¬ tkf σ k j a))
  | 0, a, fu, ha, hf => by
    obtain ⟨n, rfl⟩ : ∃ n, fu = n + 1 := ⟨fu - 1, by omega⟩
    refine ⟨0, ?_, Or.inr ⟨rfl, ?_⟩⟩
    · show (if (0 : Int) ≤ (k : Int) ∧ (k : Int) < 20 then _ else _) = _
      rw [if_pos (by omega), Int.toNat_natCast, hs, if_pos (by omega)]
    · rintro ⟨e, e1, e2, -⟩
      rw [hs] at e2
      omega
  | d + 1, a, fu, ha, hf => by
    obtain ⟨n, rfl⟩ : ∃ n, fu = n + 1 := ⟨fu - 1, by omega⟩
    have ha4 : a < 4 := by omega
    obtain ⟨b, q1, q2⟩ := c_d55 hk hs hs4 (j := j) d (a + 1) n (by omega) (by omega)
    have eX : f_Mach_dependsOn_3_p55 (n + 1) (k : Int) j (a : Int) σ = (if σ 38 (4 * k + a) = j then some (1, σ) else f_Mach_dependsOn_3_p55 n (k : Int) j ((a + 1 : Nat) : Int) σ) := by
      show (if (0 : Int) ≤ (k : Int) ∧ (k : Int) < 20 then _ else _) = _
      rw [if_pos (by omega), Int.toNat_natCast, hs, if_neg (by omega), (ix4 hk ha4).1, if_pos (ix4 hk ha4).2.2, Int.toNat_natCast, pw_s ha4 (by decide)]
    rw [eX]
    by_cases h : σ 38 (4 * k + a) = j
    · rw [if_pos h]
      exact ⟨1, rfl, Or.inl ⟨rfl, a, Nat.le_refl _, by rw [hs]; omega, h⟩⟩
    · rw [if_neg h]
      refine ⟨b, q1, ?_⟩
      rcases q2 with ⟨b1, e, e1, e2, e3⟩ | ⟨b1, b2⟩
      · exact Or.inl ⟨b1, e, by omega, e2, e3⟩
      · refine Or.inr ⟨b1, ?_⟩
        rintro ⟨e, e1, e2, e3⟩
        by_cases hea : e = a
        · rw [hea] at e3
          exact h e3
        · exact b2 ⟨e, by omega, e2, e3⟩
theorem c_dep {m : Nat} {rec : Nat → O8} {σ τ : pS} (hG : PG m rec σ τ) {k j : Nat} (hk : k < m) : ∃ b : Int, f_Mach_dependsOn_3 (k : Int) (j : Int) σ = some (b, σ) ∧ ((b = 1 ∧ dep σ k j) ∨ (b = 0 ∧ ¬ dep σ k j)) := by
  have hm := hG.le
  have g : (0 : Int) ≤ (k : Int) ∧ (k : Int) < 20 := by omega
  unfold f_Mach_dependsOn_3
  simp only [if_pos g, Int.toNat_natCast]
  by_cases h1 : σ 12 k = (j : Int)
  · rw [if_pos h1]
    exact ⟨1, rfl, Or.inl ⟨rfl, Or.inl h1⟩⟩
  rw [if_neg h1]
  by_cases h2 : σ 13 k = (j : Int)
  · rw [if_pos h2]
    exact ⟨1, rfl, Or.inl ⟨rfl, Or.inr (Or.inl h2)⟩⟩
  rw [if_neg h2]
  by_cases h3 : σ 5 k = 2
  · rw [if_pos h3]
    by_cases h4 : σ 39 k = 2
    · rw [if_pos h4]
      obtain ⟨y1, y2⟩ := hG.sz hk (by omega)
      obtain ⟨s, hs, hs4⟩ : ∃ s : Nat, σ 7 k = (s : Int) ∧ s ≤ 4 := ⟨(σ 7 k).toNat, by omega, by omega⟩
      obtain ⟨b, q1, q2⟩ := c_d55 (show k < 20 by omega) (j := (j : Int)) hs hs4 s 0 4096 (by omega) (by omega)
      refine ⟨b, q1, ?_⟩
      rcases q2 with ⟨b1, b2⟩ | ⟨b1, b2⟩
      · exact Or.inl ⟨b1, Or.inr (Or.inr ⟨h3, h4, b2⟩)⟩
      · refine Or.inr ⟨b1, ?_⟩
        rintro (q | q | ⟨-, -, q⟩)
        · exact h1 q
        · exact h2 q
        · exact b2 q
    · rw [if_neg h4]
      refine ⟨0, rfl, Or.inr ⟨rfl, ?_⟩⟩
      rintro (q | q | ⟨-, q, -⟩)
      · exact h1 q
      · exact h2 q
      · exact h4 q
  · rw [if_neg h3]
    refine ⟨0, rfl, Or.inr ⟨rfl, ?_⟩⟩
    rintro (q | q | ⟨q, -⟩)
    · exact h1 q
    · exact h2 q
    · exact h3 q
/-- loads take from stores ahead, or from memory -/
def GV (m : Nat) (D : Nat → Prop) (σ : pS) : Prop := ∀ k, k < m → D k → σ 5 k = 2 → ∀ e : Nat, (e : Int) < σ 7 k → σ 38 (4 * k + e) = -1 ∨ (0 ≤ σ 38 (4 * k + e) ∧ σ 38 (4 * k + e) < (k : Int) ∧ σ 5 (σ 38 (4 * k + e)).toNat = 3)
theorem gv_g {g : Nat → Int} {r : Int} : ∀ {k : Nat} {i : Nat}, gv g k r = (i : Int) → g i = r
  | 0, i, h => by
    unfold gv at h
    omega
  | k + 1, i, h => by
    unfold gv at h
    by_cases hg : g k = r
    · rw [if_pos hg] at h
      have : k = i := by omega
      rw [← this]
      exact hg
    · rw [if_neg hg] at h
      exact gv_g h
theorem src_g {g : Nat → Int} {r : Int} {k i : Nat} (h : src g k r = (i : Int)) : g i = r ∧ 0 ≤ r := by
  unfold src at h
  by_cases hr : 0 ≤ r ∧ r < 8
  · rw [if_pos hr] at h
    exact ⟨gv_g h, hr.1⟩
  · rw [if_neg hr] at h
    omega
section MD
variable {m : Nat} {rec : Nat → O8} {D : Nat → Prop} {σ τ : pS}
theorem m_tk {k : Nat} {i : Int} (hk : k < 20) {s : Nat} (hs : τ 93 k = (s : Int)) (hc : σ 7 k = (s : Int)) (hs4 : s ≤ 4) (he : ∀ e : Nat, (e : Int) < σ 7 k → σ 38 (4 * k + e) = τ 124 (4 * k + e)) : ∀ (d a fu : Nat), a + d = s → d < fu → ∃ b : Int, f_M_tookFrom_84_p2 fu (k : Int) i (a : Int) τ = some (b, τ) ∧ ((b = 1 ∧ tkf σ k i a) ∨ (b = 0 ∧ ¬ tkf σ k i a))
  | 0, a, fu, ha, hf => by
    obtain ⟨n, rfl⟩ : ∃ n, fu = n + 1 := ⟨fu - 1, by omega⟩
    refine ⟨0, ?_, Or.inr ⟨rfl, ?_⟩⟩
    · show (if (0 : Int) ≤ (k : Int) ∧ (k : Int) < 20 then _ else _) = _
      rw [if_pos (by omega), Int.toNat_natCast, hs, if_pos (by omega)]
    · rintro ⟨e, e1, e2, -⟩
      rw [hc] at e2
      omega
  | d + 1, a, fu, ha, hf => by
    obtain ⟨n, rfl⟩ : ∃ n, fu = n + 1 := ⟨fu - 1, by omega⟩
    have ha4 : a < 4 := by omega
    obtain ⟨b, q1, q2⟩ := m_tk hk hs hc hs4 he (i := i) d (a + 1) n (by omega) (by omega)
    have eX : f_M_tookFrom_84_p2 (n + 1) (k : Int) i (a : Int) τ = (if τ 124 (4 * k + a) = i then some (1, τ) else f_M_tookFrom_84_p2 n (k : Int) i ((a + 1 : Nat) : Int) τ) := by
      show (if (0 : Int) ≤ (k : Int) ∧ (k : Int) < 20 then _ else _) = _
      rw [if_pos (by omega), Int.toNat_natCast, hs, if_neg (by omega), (ix4 hk ha4).2.1, if_pos (ix4 hk ha4).2.2, Int.toNat_natCast, pw_s ha4 (by decide)]
    rw [eX, ← he a (by rw [hc]; omega)]
    by_cases h : σ 38 (4 * k + a) = i
    · rw [if_pos h]
      exact ⟨1, rfl, Or.inl ⟨rfl, a, Nat.le_refl _, by rw [hc]; omega, h⟩⟩
    · rw [if_neg h]
      refine ⟨b, q1, ?_⟩
      rcases q2 with ⟨b1, e, e1, e2, e3⟩ | ⟨b1, b2⟩
      · exact Or.inl ⟨b1, e, by omega, e2, e3⟩
      · refine Or.inr ⟨b1, ?_⟩
        rintro ⟨e, e1, e2, e3⟩
        by_cases hea : e = a
        · rw [hea] at e3
          exact h e3
        · exact b2 ⟨e, by omega, e2, e3⟩
/-- one more asked whether it rests on i -/
theorem m_st (hG : PG m rec σ τ) (h : RM m D σ τ) (hV : GV m D σ) {i k : Nat} (hi : i < m) (hk : k < m) (n : Nat) : (τ 118 k ≠ 0 ∧ dep σ k i ∧ f_M_listsThoseBy_84_p4 (n + 1) (i : Int) (k : Int) τ = (f_M_lists_84 (k : Int) τ).bind fun q => f_M_listsThoseBy_84_p4 n (i : Int) ((k + 1 : Nat) : Int) q.2) ∨ (¬ (τ 118 k ≠ 0 ∧ dep σ k i) ∧ f_M_listsThoseBy_84_p4 (n + 1) (i : Int) (k : Int) τ = f_M_listsThoseBy_84_p4 n (i : Int) ((k + 1 : Nat) : Int) τ) := by
  have hm := hG.le
  have gi : (0 : Int) ≤ (i : Int) ∧ (i : Int) < 20 := by omega
  have gk : (0 : Int) ≤ (k : Int) ∧ (k : Int) < 20 := by omega
  have ki := hG.kd hi
  have kk := hG.kd hk
  have sk := h.st k hk
  have e1 : pw ((k : Int) + 1) = ((k + 1 : Nat) : Int) := pw_s (show k < 20 by omega) (by decide)
  have so := hG.so k hk
  have eX : f_M_listsThoseBy_84_p4 (n + 1) (i : Int) (k : Int) τ = (if τ 118 k = 0 then f_M_listsThoseBy_84_p4 n (i : Int) ((k + 1 : Nat) : Int) τ else (if τ 88 i = 3 then (if τ 88 k = 2 then (if τ 118 k = 2 then ((f_M_tookFrom_84 (k : Int) (i : Int) τ).bind fun q16 => (if q16.1 = 0 then (f_M_listsThoseBy_84_p67 (f_M_listsThoseBy_84_p4 n) (i : Int) (k : Int) q16.2) else (f_M_listsThoseBy_84_p68 (f_M_listsThoseBy_84_p4 n) (i : Int) (k : Int) 1 q16.2))) else (f_M_listsThoseBy_84_p67 (f_M_listsThoseBy_84_p4 n) (i : Int) (k : Int) τ)) else (f_M_listsThoseBy_84_p67 (f_M_listsThoseBy_84_p4 n) (i : Int) (k : Int) τ)) else (f_M_listsThoseBy_84_p67 (f_M_listsThoseBy_84_p4 n) (i : Int) (k : Int) τ))) := by
    show (if τ 84 2 ≤ (k : Int) then _ else _) = _
    rw [hG.mm, if_neg (by omega)]
    simp only [if_pos gi, if_pos gk, Int.toNat_natCast, e1]
  rw [eX]
  by_cases h0 : τ 118 k = 0
  · rw [if_pos h0]
    exact Or.inr ⟨fun q => q.1 h0, rfl⟩
  rw [if_neg h0]
  have e67 : f_M_listsThoseBy_84_p67 (f_M_listsThoseBy_84_p4 n) (i : Int) (k : Int) τ = (if τ 88 i = 3 then f_M_listsThoseBy_84_p4 n (i : Int) ((k + 1 : Nat) : Int) τ else (if src (σ 8) k (σ 9 k) = (i : Int) ∨ src (σ 8) k (σ 10 k) = (i : Int) then (f_M_lists_84 (k : Int) τ).bind fun q => f_M_listsThoseBy_84_p4 n (i : Int) ((k + 1 : Nat) : Int) q.2 else f_M_listsThoseBy_84_p4 n (i : Int) ((k + 1 : Nat) : Int) τ)) := by
    unfold f_M_listsThoseBy_84_p67 f_M_listsThoseBy_84_p68
    rw [if_pos rfl, if_pos gi, Int.toNat_natCast, e1]
    by_cases h3 : τ 88 i = 3
    · rw [if_pos h3, if_pos h3]
    · rw [if_neg h3, if_neg h3, m_has hm hG.op hk, Option.bind_some]
      by_cases hs : src (σ 8) k (σ 9 k) = (i : Int) ∨ src (σ 8) k (σ 10 k) = (i : Int)
      · simp only [if_pos hs]
        rw [if_neg (by decide)]
        unfold f_M_listsThoseBy_84_p92
        rw [e1]
      · simp only [if_neg hs]
        rw [if_pos trivial]
  have e68 : f_M_listsThoseBy_84_p68 (f_M_listsThoseBy_84_p4 n) (i : Int) (k : Int) 1 τ = (f_M_lists_84 (k : Int) τ).bind fun q => f_M_listsThoseBy_84_p4 n (i : Int) ((k + 1 : Nat) : Int) q.2 := by
    unfold f_M_listsThoseBy_84_p68 f_M_listsThoseBy_84_p92
    rw [if_neg (by decide), e1]
  by_cases h3 : τ 88 i = 3
  · -- a store: sources never are it
    have no : ∀ r, src (σ 8) k r ≠ (i : Int) := fun r hr => by
      obtain ⟨a, b⟩ := src_g hr
      obtain ⟨c1, -, -⟩ := hG.op i hi
      have c0 := c1.1
      rcases c1.2.2.2.1 with ⟨-, c2, -⟩ | ⟨c2, -⟩ <;> omega
    have n1 : σ 12 k ≠ (i : Int) := by rw [so.1]; exact no _
    have n2 : σ 13 k ≠ (i : Int) := by rw [so.2]; exact no _
    have skip : f_M_listsThoseBy_84_p67 (f_M_listsThoseBy_84_p4 n) (i : Int) (k : Int) τ = f_M_listsThoseBy_84_p4 n (i : Int) ((k + 1 : Nat) : Int) τ := by rw [e67, if_pos h3]
    rw [if_pos h3]
    by_cases h4 : τ 88 k = 2
    · rw [if_pos h4]
      by_cases h5 : τ 118 k = 2
      · rw [if_pos h5]
        have hD := h.dn k hk (by omega)
        obtain ⟨y1, y2⟩ := hG.sz hk (by omega)
        obtain ⟨s, hs, hs4⟩ : ∃ s : Nat, σ 7 k = (s : Int) ∧ s ≤ 4 := ⟨(σ 7 k).toNat, by omega, by omega⟩
        obtain ⟨b, q1, q2⟩ := m_tk (τ := τ) (show k < 20 by omega) (i := (i : Int)) (y1.trans hs) hs hs4 ((h.va k hk hD).2.2.2 (by omega)) s 0 4096 (by omega) (by omega)
        rw [show f_M_tookFrom_84 (k : Int) (i : Int) τ = some (b, τ) from q1, Option.bind_some]
        dsimp only
        rcases q2 with ⟨b1, b2⟩ | ⟨b1, b2⟩
        · rw [if_neg (by omega), e68]
          exact Or.inl ⟨h0, Or.inr (Or.inr ⟨by omega, by omega, b2⟩), rfl⟩
        · rw [if_pos b1, skip]
          refine Or.inr ⟨?_, rfl⟩
          rintro ⟨-, q | q | ⟨-, -, q⟩⟩
          · exact n1 q
          · exact n2 q
          · exact b2 q
      · rw [if_neg h5, skip]
        refine Or.inr ⟨?_, rfl⟩
        rintro ⟨-, q | q | ⟨-, q, -⟩⟩
        · exact n1 q
        · exact n2 q
        · omega
    · rw [if_neg h4, skip]
      refine Or.inr ⟨?_, rfl⟩
      rintro ⟨-, q | q | ⟨q, -⟩⟩
      · exact n1 q
      · exact n2 q
      · omega
  · rw [if_neg h3, e67, if_neg h3, ← so.1, ← so.2]
    by_cases hs : σ 12 k = (i : Int) ∨ σ 13 k = (i : Int)
    · rw [if_pos hs]
      exact Or.inl ⟨h0, hs.elim Or.inl (fun q => Or.inr (Or.inl q)), rfl⟩
    · rw [if_neg hs]
      refine Or.inr ⟨?_, rfl⟩
      rintro ⟨-, q | q | ⟨q1, q2, e, -, e2, e3⟩⟩
      · exact hs (Or.inl q)
      · exact hs (Or.inr q)
      · rcases hV k hk (h.dn k hk q2) q1 e e2 with z | ⟨-, -, z⟩
        · omega
        · rw [e3, Int.toNat_natCast] at z
          omega
end MD
/-- the reference's list -/
def RLt (τ : pS) (R : List Nat) : Prop := τ 84 72 = (R.length : Int) ∧ ∀ (a x : Nat), R[a]? = some x → τ 131 a = (x : Int)
def Q_li (k x : Nat) : Prop := k = 131 ∨ (k = 84 ∧ x = 72)
theorem ov_of {τ τ' : pS} (h : FR Q_li τ τ') : τ' = ov τ (τ' 131) (τ' 84 72) := by
  funext k x
  unfold ov
  by_cases h1 : k = 131
  · rw [if_pos h1, h1]
  · rw [if_neg h1]
    by_cases h2 : k = 84 ∧ x = 72
    · rw [if_pos h2, h2.1, h2.2]
    · rw [if_neg h2]
      exact h.get (by unfold Q_li; omega)
theorem m_li {τ : pS} {R : List Nat} (h : RLt τ R) (hR : R.length < 400) (k : Nat) : ∃ τ', f_M_lists_84 (k : Int) τ = some (0, τ') ∧ RLt τ' (R ++ [k]) ∧ FR Q_li τ τ' := by
  unfold f_M_lists_84
  rw [h.1, if_pos (by omega), Int.toNat_natCast, pw_id (by omega) (by omega)]
  refine ⟨_, rfl, ⟨?_, fun a x hx => ?_⟩, (FR.u (Or.inl rfl)).tr (FR.u (Or.inr ⟨rfl, rfl⟩))⟩
  · rw [pU_s, List.length_append]
    simp
  · rw [pU_c _ _ _ _ (by decide)]
    by_cases ha : a = R.length
    · rw [ha, pU_s]
      rw [ha, List.getElem?_append_right (Nat.le_refl _)] at hx
      simp at hx
      omega
    · rw [pU_i _ _ _ _ ha]
      have h1 : a < R.length := by
        have := (List.getElem?_eq_some_iff.mp hx).1
        rw [List.length_append] at this
        simp at this
        omega
      rw [List.getElem?_append_left h1] at hx
      exact h.2 a x hx
theorem m_lst {m : Nat} {rec : Nat → O8} {D : Nat → Prop} {σ : pS} {i : Nat} (hi : i < m) (hV : GV m D σ) : ∀ (d k fu : Nat) (τ : pS) (R : List Nat), k + d = m → d < fu → PG m rec σ τ → RM m D σ τ → RLt τ R → R.length + d ≤ 400 → ∃ τ' ks, f_M_listsThoseBy_84_p4 fu (i : Int) (k : Int) τ = some (0, τ') ∧ Fl (fun x => τ 118 x ≠ 0 ∧ dep σ x i) k d ks ∧ RLt τ' (R ++ ks) ∧ FR Q_li τ τ'
  | 0, k, fu, τ, R, hk, hf, hG, h, hR, hl => by
    obtain ⟨n, rfl⟩ : ∃ n, fu = n + 1 := ⟨fu - 1, by omega⟩
    refine ⟨τ, [], ?_, .nil k, by rw [List.append_nil]; exact hR, FR.rf _ _⟩
    show (if τ 84 2 ≤ (k : Int) then _ else _) = _
    rw [hG.mm, if_pos (by omega)]
  | d + 1, k, fu, τ, R, hk, hf, hG, h, hR, hl => by
    obtain ⟨n, rfl⟩ : ∃ n, fu = n + 1 := ⟨fu - 1, by omega⟩
    rcases m_st hG h hV hi (show k < m by omega) n with ⟨a1, a2, a3⟩ | ⟨a1, a2⟩
    · obtain ⟨τ1, b1, b2, b3⟩ := m_li hR (by omega) k
      have f1 : FR Q_sno τ τ1 := b3.mono (fun k x hh => by unfold Q_li at hh; unfold Q_sno; omega)
      have hG1 : PG m rec σ τ1 := hG.fr (FR.rf _ _) (b3.mono (fun k x hh => by unfold Q_li at hh; unfold QN; omega))
      obtain ⟨τ', ks, c1, c2, c3, c4⟩ := m_lst hi hV d (k + 1) n τ1 (R ++ [k]) (by omega) (by omega) hG1 (h.sno (FR.rf _ _) f1) b2 (by rw [List.length_append]; simp; omega)
      refine ⟨τ', k :: ks, ?_, .yes ⟨a1, a2⟩ (c2.cg (fun x _ _ => by rw [b3.get (k := 118) (x := x) (by unfold Q_li; omega)])), by rw [List.append_assoc] at c3; exact c3, b3.tr c4⟩
      rw [a3, b1, Option.bind_some]
      exact c1
    · obtain ⟨τ', ks, c1, c2, c3, c4⟩ := m_lst hi hV d (k + 1) n τ R (by omega) (by omega) hG h hR (by omega)
      exact ⟨τ', ks, by rw [a2]; exact c1, .no a1 c2, c3, c4⟩
