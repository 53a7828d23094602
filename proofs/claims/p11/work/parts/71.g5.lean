/-- those of k, k + 1, .. (d of them) for which p holds -/
def Fl (p : Nat → Prop) : Nat → Nat → List Nat → Prop
  | _, 0, l => l = []
  | k, d + 1, l => (p k ∧ ∃ l', l = k :: l' ∧ Fl p (k + 1) d l') ∨ (¬ p k ∧ Fl p (k + 1) d l)
theorem Fl.nil {p : Nat → Prop} (k : Nat) : Fl p k 0 [] := rfl
theorem Fl.yes {p : Nat → Prop} {k d : Nat} {l : List Nat} (h : p k) (h2 : Fl p (k + 1) d l) : Fl p k (d + 1) (k :: l) := Or.inl ⟨h, l, rfl, h2⟩
theorem Fl.no {p : Nat → Prop} {k d : Nat} {l : List Nat} (h : ¬ p k) (h2 : Fl p (k + 1) d l) : Fl p k (d + 1) l := Or.inr ⟨h, h2⟩
theorem Fl.iv0 {p : Nat → Prop} {k : Nat} {l : List Nat} (h : Fl p k 0 l) : l = [] := h
theorem Fl.iv {p : Nat → Prop} {k d : Nat} {l : List Nat} (h : Fl p k (d + 1) l) : (p k ∧ ∃ l', l = k :: l' ∧ Fl p (k + 1) d l') ∨ (¬ p k ∧ Fl p (k + 1) d l) := h
theorem Fl.cg {p p' : Nat → Prop} : ∀ {d k : Nat} {l : List Nat}, Fl p k d l → (∀ x, k ≤ x → x < k + d → (p x ↔ p' x)) → Fl p' k d l
  | 0, k, l, h, _ => by rw [h.iv0]; exact .nil k
  | d + 1, k, l, h, e => by
    rcases h.iv with ⟨h1, l', rfl, h2⟩ | ⟨h1, h2⟩
    · exact .yes ((e k (Nat.le_refl _) (by omega)).mp h1) (h2.cg (fun x a b => e x (by omega) (by omega)))
    · exact .no (fun q => h1 ((e k (Nat.le_refl _) (by omega)).mpr q)) (h2.cg (fun x a b => e x (by omega) (by omega)))
theorem Fl.mem {p : Nat → Prop} : ∀ {d k : Nat} {l : List Nat}, Fl p k d l → ∀ x, x ∈ l ↔ (k ≤ x ∧ x < k + d ∧ p x)
  | 0, k, l, h, x => by
    rw [h.iv0]
    constructor
    · intro q
      cases q
    · rintro ⟨a, b, -⟩
      omega
  | d + 1, k, l, h, x => by
    rcases h.iv with ⟨h1, l', rfl, h2⟩ | ⟨h1, h2⟩
    · rw [List.mem_cons, h2.mem x]
      constructor
      · rintro (rfl | ⟨a, b, c⟩)
        · exact ⟨Nat.le_refl _, by omega, h1⟩
        · exact ⟨by omega, by omega, c⟩
      · rintro ⟨a, b, c⟩
        by_cases hx : x = k
        · exact Or.inl hx
        · exact Or.inr ⟨by omega, by omega, c⟩
    · rw [h2.mem x]
      constructor
      · rintro ⟨a, b, c⟩
        exact ⟨by omega, by omega, c⟩
      · rintro ⟨a, b, c⟩
        refine ⟨?_, by omega, c⟩
        by_cases hx : x = k
        · rw [hx] at c
          exact absurd c h1
        · omega
theorem Fl.len {p : Nat → Prop} : ∀ {d k : Nat} {l : List Nat}, Fl p k d l → l.length ≤ d
  | 0, k, l, h => by rw [h.iv0]; exact Nat.le_refl _
  | d + 1, k, l, h => by
    rcases h.iv with ⟨h1, l', rfl, h2⟩ | ⟨h1, h2⟩
    · have := h2.len
      show _ + 1 ≤ d + 1
      omega
    · have := h2.len
      omega
theorem Fl.nd {p : Nat → Prop} : ∀ {d k : Nat} {l : List Nat}, Fl p k d l → l.Nodup
  | 0, k, l, h => by rw [h.iv0]; exact List.nodup_nil
  | d + 1, k, l, h => by
    rcases h.iv with ⟨h1, l', rfl, h2⟩ | ⟨h1, h2⟩
    · refine List.nodup_cons.mpr ⟨fun q => ?_, h2.nd⟩
      have := (h2.mem k).mp q
      omega
    · exact h2.nd
theorem nd_le : ∀ (n : Nat) (l : List Nat), l.Nodup → (∀ x ∈ l, x < n) → l.length ≤ n
  | 0, l, _, h => by
    cases l with
    | nil => exact Nat.le_refl _
    | cons a l => exact absurd (h a List.mem_cons_self) (Nat.not_lt_zero _)
  | n + 1, l, hn, h => by
    by_cases hm : n ∈ l
    · have h1 := nd_le n (l.erase n) (hn.erase n) (fun x hx => by
        have a := (hn.mem_erase_iff).mp hx
        have := h x a.2
        have := a.1
        omega)
      rw [List.length_erase_of_mem hm] at h1
      omega
    · have h1 := nd_le n l hn (fun x hx => by
        have := h x hx
        have : x ≠ n := fun e => hm (e ▸ hx)
        omega)
      omega
/-- the first of each in a list, those of S left out -/
def FO : (Nat → Prop) → List Nat → List Nat → Prop
  | _, [], Q => Q = []
  | S, x :: R, Q => (S x ∧ FO S R Q) ∨ (¬ S x ∧ ∃ Q', Q = x :: Q' ∧ FO (fun y => S y ∨ y = x) R Q')
theorem FO.nil (S : Nat → Prop) : FO S [] [] := rfl
theorem FO.skip {S : Nat → Prop} {x : Nat} {R Q : List Nat} (h : S x) (h2 : FO S R Q) : FO S (x :: R) Q := Or.inl ⟨h, h2⟩
theorem FO.take {S : Nat → Prop} {x : Nat} {R Q : List Nat} (h : ¬ S x) (h2 : FO (fun y => S y ∨ y = x) R Q) : FO S (x :: R) (x :: Q) := Or.inr ⟨h, Q, rfl, h2⟩
theorem FO.iv0 {S : Nat → Prop} {Q : List Nat} (h : FO S [] Q) : Q = [] := h
theorem FO.iv {S : Nat → Prop} {x : Nat} {R Q : List Nat} (h : FO S (x :: R) Q) : (S x ∧ FO S R Q) ∨ (¬ S x ∧ ∃ Q', Q = x :: Q' ∧ FO (fun y => S y ∨ y = x) R Q') := h
theorem FO.cg {S S' : Nat → Prop} {R Q : List Nat} (h : FO S R Q) (e : ∀ y, S y ↔ S' y) : FO S' R Q := by
  have : S = S' := funext (fun y => propext (e y))
  rw [← this]
  exact h
theorem FO_b {p p' : Nat → Prop} : ∀ {d k : Nat} {A B : List Nat} {S : Nat → Prop}, Fl p k d A → Fl p' k d B → (∀ x, k ≤ x → x < k + d → (p' x ↔ (p x ∧ ¬ S x))) → FO S A B
  | 0, k, A, B, S, h1, h2, e => by rw [h1.iv0, h2.iv0]; exact .nil S
  | d + 1, k, A, B, S, h1, h2, e => by
    have ek := e k (Nat.le_refl _) (by omega)
    rcases h1.iv with ⟨a1, A', rfl, a2⟩ | ⟨a1, a2⟩
    · rcases h2.iv with ⟨b1, B', rfl, b2⟩ | ⟨b1, b2⟩
      · exact .take (ek.mp b1).2 (FO_b a2 b2 (fun x q1 q2 => by
          rw [e x (by omega) (by omega)]
          constructor
          · rintro ⟨c1, c2⟩
            exact ⟨c1, fun q => q.elim c2 (fun q => by omega)⟩
          · rintro ⟨c1, c2⟩
            exact ⟨c1, fun q => c2 (Or.inl q)⟩))
      · have hS : S k := Classical.byContradiction (fun q => b1 (ek.mpr ⟨a1, q⟩))
        exact .skip hS (FO_b a2 b2 (fun x q1 q2 => e x (by omega) (by omega)))
    · rcases h2.iv with ⟨b1, B', rfl, b2⟩ | ⟨b1, b2⟩
      · exact absurd (ek.mp b1).1 a1
      · exact FO_b a2 b2 (fun x q1 q2 => e x (by omega) (by omega))
theorem FO_app {p p' : Nat → Prop} {d k : Nat} {A B : List Nat} : ∀ {S : Nat → Prop} {R Q : List Nat}, FO S R Q → Fl p k d A → Fl p' k d B → (∀ x, k ≤ x → x < k + d → (p' x ↔ (p x ∧ ¬ S x ∧ x ∉ Q))) → FO S (R ++ A) (Q ++ B) := by
  intro S R
  induction R generalizing S with
  | nil =>
    intro Q h h1 h2 e
    rw [h.iv0] at e ⊢
    exact FO_b h1 h2 (fun x a b => by
      rw [e x a b]
      constructor
      · rintro ⟨c1, c2, -⟩
        exact ⟨c1, c2⟩
      · rintro ⟨c1, c2⟩
        exact ⟨c1, c2, List.not_mem_nil⟩)
  | cons y R ih =>
    intro Q h h1 h2 e
    rcases h.iv with ⟨hS, h'⟩ | ⟨hS, Q', rfl, h'⟩
    · exact .skip hS (ih h' h1 h2 e)
    · refine .take hS (ih h' h1 h2 (fun x a b => ?_))
      rw [e x a b]
      constructor
      · rintro ⟨c1, c2, c3⟩
        rw [List.mem_cons] at c3
        exact ⟨c1, fun q => q.elim c2 (fun q => c3 (Or.inl q)), fun q => c3 (Or.inr q)⟩
      · rintro ⟨c1, c2, c3⟩
        refine ⟨c1, fun q => c2 (Or.inl q), fun q => ?_⟩
        rw [List.mem_cons] at q
        exact q.elim (fun q => c2 (Or.inr q)) c3
/-- k rests on j, in the class's store -/
def tkf (σ : pS) (k : Nat) (j : Int) (a : Nat) : Prop := ∃ e : Nat, a ≤ e ∧ (e : Int) < σ 7 k ∧ σ 38 (4 * k + e) = j
def dep (σ : pS) (k j : Nat) : Prop := σ 12 k = (j : Int) ∨ σ 13 k = (j : Int) ∨ (σ 5 k = 2 ∧ σ 39 k = 2 ∧ tkf σ k (j : Int) 0)
theorem c_d55 {σ : pS} {k : Nat} {j : Int} (hk : k < 20) {s : Nat} (hs : σ 7 k = (s : Int)) (hs4 : s ≤ 4) : ∀ (d a fu : Nat), a + d = s → d < fu → ∃ b : Int, f_Mach_dependsOn_3_p55 fu (k : Int) j (a : Int) σ = some (b, σ) ∧ ((b = 1 ∧ tkf σ k j a) ∨ (b = 0 ∧ ¬ tkf σ k j a))
  | 0, a, fu, ha, hf => by
    obtain ⟨n, rfl⟩ : ∃ n, fu = n + 1 := ⟨fu - 1, by omega⟩
    refine ⟨0, ?_, Or.inr ⟨rfl, ?_⟩⟩
    · show (if (0 : Int) ≤ (k : Int) ∧ (k : Int) < 20 then _ else _) = _
      rw [if_pos (by omega), Int.toNat_natCast, hs, if_pos (by omega)]
    · rintro ⟨e, e1, e2, -⟩
      rw [hs] at e2
      omega
  | d + 1, a, fu, ha, hf => by
    obtain ⟨n, rfl⟩ : ∃ n, fu = n + 1 := ⟨fu - 1, by omega⟩
    have ha4 : a < 4 := by omega
    obtain ⟨b, q1, q2⟩ := c_d55 hk hs hs4 (j := j) d (a + 1) n (by omega) (by omega)
    have eX : f_Mach_dependsOn_3_p55 (n + 1) (k : Int) j (a : Int) σ = (if σ 38 (4 * k + a) = j then some (1, σ) else f_Mach_dependsOn_3_p55 n (k : Int) j ((a + 1 : Nat) : Int) σ) := by
      show (if (0 : Int) ≤ (k : Int) ∧ (k : Int) < 20 then _ else _) = _
      rw [if_pos (by omega), Int.toNat_natCast, hs, if_neg (by omega), (ix4 hk ha4).1, if_pos (ix4 hk ha4).2.2, Int.toNat_natCast, pw_s ha4 (by decide)]
    rw [eX]
    by_cases h : σ 38 (4 * k + a) = j
    · rw [if_pos h]
      exact ⟨1, rfl, Or.inl ⟨rfl, a, Nat.le_refl _, by rw [hs]; omega, h⟩⟩
    · rw [if_neg h]
      refine ⟨b, q1, ?_⟩
      rcases q2 with ⟨b1, e, e1, e2, e3⟩ | ⟨b1, b2⟩
      · exact Or.inl ⟨b1, e, by omega, e2, e3⟩
      · refine Or.inr ⟨b1, ?_⟩
        rintro ⟨e, e1, e2, e3⟩
        by_cases hea : e = a
        · rw [hea] at e3
          exact h e3
        · exact b2 ⟨e, by omega, e2, e3⟩
theorem c_dep {m : Nat} {rec : Nat → O8} {σ τ : pS} (hG : PG m rec σ τ) {k j : Nat} (hk : k < m) : ∃ b : Int, f_Mach_dependsOn_3 (k : Int) (j : Int) σ = some (b, σ) ∧ ((b = 1 ∧ dep σ k j) ∨ (b = 0 ∧ ¬ dep σ k j)) := by
  have hm := hG.le
  have g : (0 : Int) ≤ (k : Int) ∧ (k : Int) < 20 := by omega
  unfold f_Mach_dependsOn_3
  simp only [if_pos g, Int.toNat_natCast]
  by_cases h1 : σ 12 k = (j : Int)
  · rw [if_pos h1]
    exact ⟨1, rfl, Or.inl ⟨rfl, Or.inl h1⟩⟩
  rw [if_neg h1]
  by_cases h2 : σ 13 k = (j : Int)
  · rw [if_pos h2]
    exact ⟨1, rfl, Or.inl ⟨rfl, Or.inr (Or.inl h2)⟩⟩
  rw [if_neg h2]
  by_cases h3 : σ 5 k = 2
  · rw [if_pos h3]
    by_cases h4 : σ 39 k = 2
    · rw [if_pos h4]
      obtain ⟨y1, y2⟩ := hG.sz hk (by omega)
      obtain ⟨s, hs, hs4⟩ : ∃ s : Nat, σ 7 k = (s : Int) ∧ s ≤ 4 := ⟨(σ 7 k).toNat, by omega, by omega⟩
      obtain ⟨b, q1, q2⟩ := c_d55 (show k < 20 by omega) (j := (j : Int)) hs hs4 s 0 4096 (by omega) (by omega)
      refine ⟨b, q1, ?_⟩
      rcases q2 with ⟨b1, b2⟩ | ⟨b1, b2⟩
      · exact Or.inl ⟨b1, Or.inr (Or.inr ⟨h3, h4, b2⟩)⟩
      · refine Or.inr ⟨b1, ?_⟩
        rintro (q | q | ⟨-, -, q⟩)
        · exact h1 q
        · exact h2 q
        · exact b2 q
    · rw [if_neg h4]
      refine ⟨0, rfl, Or.inr ⟨rfl, ?_⟩⟩
      rintro (q | q | ⟨-, q, -⟩)
      · exact h1 q
      · exact h2 q
      · exact h4 q
  · rw [if_neg h3]
    refine ⟨0, rfl, Or.inr ⟨rfl, ?_⟩⟩
    rintro (q | q | ⟨q, -⟩)
    · exact h1 q
    · exact h2 q
    · exact h3 q
