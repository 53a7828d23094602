/-- lexicographic order of lists of one length -/
def ev_lx : List Nat → List Nat → Prop
  | a :: as, b :: bs => a < b ∨ (a = b ∧ ev_lx as bs)
  | _, _ => False
theorem ev_lx_ind : ∀ (n : Nat) (P : List Nat → Prop), (∀ v : List Nat, v.length = n → (∀ u : List Nat, u.length = n → ev_lx u v → P u) → P v) → ∀ v : List Nat, v.length = n → P v
  | 0, P, h, v, hv => by
    refine h v hv (fun u hu hl => ?_)
    cases u with
    | nil => exact hl.elim
    | cons a as => cases hu
  | n + 1, P, h, v, hv => by
    have key : ∀ (a : Nat) (as : List Nat), as.length = n → P (a :: as) := by
      intro a
      induction a using Nat.strongRecOn with
      | _ a iha =>
        refine ev_lx_ind n (fun as => P (a :: as)) (fun as has hih => h (a :: as) (by rw [List.length_cons, has]) (fun u hu hl => ?_))
        cases u with
        | nil => cases hu
        | cons b bs =>
          have hbs : bs.length = n := by simpa using hu
          rcases hl with hl | ⟨rfl, hl⟩
          · exact iha b hl bs hbs
          · exact hih bs hbs hl
    cases v with
    | nil => cases hv
    | cons a as => exact key a as (by simpa using hv)
/-- a part of a measure: a constant; what is left up to a bound; what is left down to one -/
abbrev ev_m : Type := Nat × (Nat × Nat × Nat) × Int
def ev_mn (c : ev_m) (v : Int) : Nat := match c.1 with
  | 0 => c.2.2.toNat
  | 1 => (c.2.2 - v).toNat
  | _ => (v - c.2.2).toNat
def ev_vec (γ : Nat → Int) : Nat → List ev_m → List Nat
  | _, [] => []
  | k, c :: cs => ev_mn c (γ k) :: ev_vec γ (k + 1) cs
theorem ev_vec_len {γ : Nat → Int} : ∀ (cs : List ev_m) (k : Nat), (ev_vec γ k cs).length = cs.length
  | [], _ => rfl
  | _ :: cs, k => by unfold ev_vec; rw [List.length_cons, ev_vec_len cs (k + 1), List.length_cons]
def ev_gx (γ : Nat → Int) (ls : Array Slot) (ws : va_W) (k : Nat) (cs : List ev_m) : Prop := ∀ (i : Nat) (c : ev_m), cs[i]? = some c → c.1 = 0 ∨ ∃ x : Int32, ev_loc ls ws c.2.1 x ∧ γ (k + i) = x.toInt
theorem ev_gx_tail {γ : Nat → Int} {ls : Array Slot} {ws : va_W} {k : Nat} {c : ev_m} {cs : List ev_m} (h : ev_gx γ ls ws k (c :: cs)) : ev_gx γ ls ws (k + 1) cs := by
  intro i d hi
  have := h (i + 1) d (by rw [List.getElem?_cons_succ]; exact hi)
  rw [show k + 1 + i = k + (i + 1) by omega]
  exact this
theorem ev_gx_ex {ls : Array Slot} {ws : va_W} {cs : List ev_m} (h : ∀ c ∈ cs, c.1 = 0 ∨ ∃ x : Int32, ev_loc ls ws c.2.1 x) : ∃ γ : Nat → Int, ev_gx γ ls ws 0 cs := by
  classical
  refine ⟨fun k => if hk : ∃ x : Int32, ∃ c, cs[k]? = some c ∧ ev_loc ls ws c.2.1 x then (Classical.choose hk).toInt else 0, fun i c hi => ?_⟩
  rcases h c (List.mem_of_getElem? hi) with h0 | ⟨x, hx⟩
  · exact Or.inl h0
  · refine Or.inr ?_
    have hk : ∃ x : Int32, ∃ c, cs[i]? = some c ∧ ev_loc ls ws c.2.1 x := ⟨x, c, hi, hx⟩
    obtain ⟨d, h1, h2⟩ := Classical.choose_spec hk
    rw [hi] at h1
    cases h1
    refine ⟨Classical.choose hk, h2, ?_⟩
    rw [Nat.zero_add]
    exact dif_pos hk
/-- a place's bounds and ghost -/
def ev_gl (L : List ev_l) (FS : List ev_f) (q : Nat × Nat × Nat) : Option ((Int × Int) × Option (Nat × Int)) := match q.1 with
  | 1 => match L[q.2.1]? with
    | some (some (.inl b, g)) => some (b, g)
    | _ => none
  | _ => ev_lk FS q
theorem ev_gl_ok {N : Nat} {ad : Nat → Nat} {γ : Nat → Int} {L : List ev_l} {FS : List ev_f} {ls : Array Slot} {ws : va_W} {q : Nat × Nat × Nat} {u : (Int × Int) × Option (Nat × Int)} (hl : ev_lo N ad γ L ls) (hf : ∀ f ∈ FS, ev_fact γ ls ws f) (h : ev_gl L FS q = some u) : ∃ x : Int32, ev_loc ls ws q x ∧ en_in u.1 x ∧ ev_gt γ u.2 (.int x) := by
  obtain ⟨k, a, b⟩ := q
  unfold ev_gl at h
  split at h
  · rename_i hk
    dsimp only at hk
    subst hk
    split at h
    · rename_i b0 g hq
      cases h
      obtain ⟨x, h1, ⟨z, rfl, h2⟩, h3⟩ := hl a _ hq
      exact ⟨z, h1, h2, h3⟩
    · cases h
  · exact ev_lk_ok hf h
def ev_lt (L : List ev_l) (FS : List ev_f) (k : Nat) (c d : ev_m) : Bool := match c.1, d.1 with
  | 0, 0 => decide (d.2.2.toNat < c.2.2.toNat)
  | 1, 1 => decide (c.2.2 = d.2.2) && (match ev_gl L FS d.2.1 with
    | some (b, some (g, off)) => g == k && (decide (0 < off) && decide (b.2 ≤ d.2.2))
    | _ => false)
  | 2, 2 => decide (c.2.2 = d.2.2) && (match ev_gl L FS d.2.1 with
    | some (b, some (g, off)) => g == k && (decide (off < 0) && decide (d.2.2 ≤ b.1))
    | _ => false)
  | _, _ => false
def ev_eq (L : List ev_l) (FS : List ev_f) (k : Nat) (c d : ev_m) : Bool := match c.1, d.1 with
  | 0, 0 => decide (d.2.2.toNat = c.2.2.toNat)
  | 1, 1 => decide (c.2.2 = d.2.2) && (match ev_gl L FS d.2.1 with
    | some (_, some (g, off)) => g == k && decide (off = 0)
    | _ => false)
  | 2, 2 => decide (c.2.2 = d.2.2) && (match ev_gl L FS d.2.1 with
    | some (_, some (g, off)) => g == k && decide (off = 0)
    | _ => false)
  | _, _ => false
def ev_dec (L : List ev_l) (FS : List ev_f) : Nat → List ev_m → List ev_m → Bool
  | k, c :: cs, d :: ds => ev_lt L FS k c d || (ev_eq L FS k c d && ev_dec L FS (k + 1) cs ds)
  | _, _, _ => false
section EVL0
variable {N : Nat} {ad : Nat → Nat} {γ γ' : Nat → Int} {L : List ev_l} {FS : List ev_f} {ls : Array Slot} {ws : va_W}
theorem ev_gk {k g : Nat} {off : Int} {b : Int × Int} {d : ev_m} (hl : ev_lo N ad γ L ls) (hf : ∀ f ∈ FS, ev_fact γ ls ws f) (h : ev_gl L FS d.2.1 = some (b, some (g, off))) (hg : g = k) (hd : d.1 ≠ 0) (hx : d.1 = 0 ∨ ∃ x : Int32, ev_loc ls ws d.2.1 x ∧ γ' k = x.toInt) : γ' k = γ k + off ∧ b.1 ≤ γ' k ∧ γ' k ≤ b.2 := by
  obtain ⟨x, h1, h2, i, e, h3⟩ := ev_gl_ok hl hf h
  cases e
  rcases hx with hx | ⟨y, h4, h5⟩
  · exact absurd hx hd
  · have e := ev_loc_one h1 h4
    subst e
    subst hg
    exact ⟨h5.trans h3, by rw [h5]; exact h2.1, by rw [h5]; exact h2.2⟩
theorem ev_lt_ok {k : Nat} {c d : ev_m} (hl : ev_lo N ad γ L ls) (hf : ∀ f ∈ FS, ev_fact γ ls ws f) (h : ev_lt L FS k c d = true) (hx : d.1 = 0 ∨ ∃ x : Int32, ev_loc ls ws d.2.1 x ∧ γ' k = x.toInt) : ev_mn d (γ' k) < ev_mn c (γ k) := by
  obtain ⟨c1, c2, c3⟩ := c
  obtain ⟨d1, d2, d3⟩ := d
  unfold ev_lt at h
  split at h
  · rename_i e1 e2
    dsimp only at e1 e2
    subst e1
    subst e2
    exact of_decide_eq_true h
  · rename_i e1 e2
    dsimp only at e1 e2
    subst e1
    subst e2
    rw [Bool.and_eq_true] at h
    obtain ⟨h1, h2⟩ := h
    split at h2
    · rename_i b g off hg
      simp only [Bool.and_eq_true, beq_iff_eq, decide_eq_true_eq] at h1 h2
      obtain ⟨h3, h4, h5⟩ := h2
      obtain ⟨a1, a2, a3⟩ := ev_gk hl hf hg h3 (fun h => by cases h) hx
      show (d3 - γ' k).toNat < (c3 - γ k).toNat
      omega
    · cases h2
  · rename_i e1 e2
    dsimp only at e1 e2
    subst e1
    subst e2
    rw [Bool.and_eq_true] at h
    obtain ⟨h1, h2⟩ := h
    split at h2
    · rename_i b g off hg
      simp only [Bool.and_eq_true, beq_iff_eq, decide_eq_true_eq] at h1 h2
      obtain ⟨h3, h4, h5⟩ := h2
      obtain ⟨a1, a2, a3⟩ := ev_gk hl hf hg h3 (fun h => by cases h) hx
      show (γ' k - d3).toNat < (γ k - c3).toNat
      omega
    · cases h2
  · cases h
theorem ev_eq_ok {k : Nat} {c d : ev_m} (hl : ev_lo N ad γ L ls) (hf : ∀ f ∈ FS, ev_fact γ ls ws f) (h : ev_eq L FS k c d = true) (hx : d.1 = 0 ∨ ∃ x : Int32, ev_loc ls ws d.2.1 x ∧ γ' k = x.toInt) : ev_mn d (γ' k) = ev_mn c (γ k) := by
  obtain ⟨c1, c2, c3⟩ := c
  obtain ⟨d1, d2, d3⟩ := d
  unfold ev_eq at h
  split at h
  · rename_i e1 e2
    dsimp only at e1 e2
    subst e1
    subst e2
    exact of_decide_eq_true h
  · rename_i e1 e2
    dsimp only at e1 e2
    subst e1
    subst e2
    rw [Bool.and_eq_true] at h
    obtain ⟨h1, h2⟩ := h
    split at h2
    · rename_i b g off hg
      simp only [Bool.and_eq_true, beq_iff_eq, decide_eq_true_eq] at h1 h2
      obtain ⟨h3, h4⟩ := h2
      obtain ⟨a1, a2, a3⟩ := ev_gk hl hf hg h3 (fun h => by cases h) hx
      show (d3 - γ' k).toNat = (c3 - γ k).toNat
      omega
    · cases h2
  · rename_i e1 e2
    dsimp only at e1 e2
    subst e1
    subst e2
    rw [Bool.and_eq_true] at h
    obtain ⟨h1, h2⟩ := h
    split at h2
    · rename_i b g off hg
      simp only [Bool.and_eq_true, beq_iff_eq, decide_eq_true_eq] at h1 h2
      obtain ⟨h3, h4⟩ := h2
      obtain ⟨a1, a2, a3⟩ := ev_gk hl hf hg h3 (fun h => by cases h) hx
      show (γ' k - d3).toNat = (γ k - c3).toNat
      omega
    · cases h2
  · cases h
theorem ev_dec_ok (hl : ev_lo N ad γ L ls) (hf : ∀ f ∈ FS, ev_fact γ ls ws f) : ∀ {cs ds : List ev_m} {k : Nat}, ev_dec L FS k cs ds = true → ev_gx γ' ls ws k ds → ev_lx (ev_vec γ' k ds) (ev_vec γ k cs)
  | c :: cs, d :: ds, k, h, hx => by
    unfold ev_dec at h
    rw [Bool.or_eq_true, Bool.and_eq_true] at h
    have h0 := hx 0 d rfl
    rw [Nat.add_zero] at h0
    rcases h with h | ⟨h1, h2⟩
    · exact Or.inl (ev_lt_ok hl hf h h0)
    · exact Or.inr ⟨ev_eq_ok hl hf h1 h0, ev_dec_ok hl hf h2 (ev_gx_tail hx)⟩
  | [], _, _, h, _ => by cases h
  | _ :: _, [], _, h, _ => by cases h
/-- the places of a measure, marked at the head -/
def ev_tgL (L : List ev_l) (i k : Nat) : List ev_l := match L[i]? with
  | some (some (a, _)) => L.set i (some (a, some (k, 0)))
  | _ => L
def ev_tgs : Nat → List ev_m → List ev_l → List ev_f → List ev_l × List ev_f
  | _, [], L, FS => (L, FS)
  | k, c :: cs, L, FS => match c.1 == 0 with
    | true => ev_tgs (k + 1) cs L FS
    | false => match c.2.1.1 == 1 with
      | true => ev_tgs (k + 1) cs (ev_tgL L c.2.1.2.1 k) FS
      | false => ev_tgs (k + 1) cs L ((c.2.1, ev_fq FS c.2.1 en_full, some (k, 0)) :: FS)
theorem ev_tgL_ok {i k : Nat} {y : Int32} (hl : ev_lo N ad γ L ls) (hy : ls[i]? = some (.val (.int y))) (hk : γ k = y.toInt) : (ev_tgL L i k).length = L.length ∧ ev_lo N ad γ (ev_tgL L i k) ls := by
  unfold ev_tgL
  split
  · rename_i a g hq
    refine ⟨List.length_set, fun j u hj => ?_⟩
    by_cases hji : j = i
    · subst hji
      rw [List.getElem?_set_self (List.getElem?_eq_some_iff.mp hq).1] at hj
      cases hj
      obtain ⟨x, g1, g2, g3⟩ := hl j _ hq
      refine ⟨x, g1, g2, y, ?_, ?_⟩
      · exact Slot.val.inj (Option.some.inj (g1.symm.trans hy))
      · show _ = γ k + 0
        omega
    · rw [List.getElem?_set_ne (Ne.symm hji)] at hj
      exact hl j u hj
  · exact ⟨rfl, hl⟩
theorem ev_tgs_ok : ∀ {cs : List ev_m} {k : Nat} {L : List ev_l} {FS : List ev_f}, ev_lo N ad γ L ls → (∀ f ∈ FS, ev_fact γ ls ws f) → ev_gx γ ls ws k cs → (ev_tgs k cs L FS).1.length = L.length ∧ ev_lo N ad γ (ev_tgs k cs L FS).1 ls ∧ ∀ f ∈ (ev_tgs k cs L FS).2, ev_fact γ ls ws f
  | [], _, _, _, hl, hf, _ => ⟨rfl, hl, hf⟩
  | c :: cs, k, L, FS, hl, hf, hx => by
    have h0 := hx 0 c rfl
    rw [Nat.add_zero] at h0
    unfold ev_tgs
    split
    · exact ev_tgs_ok hl hf (ev_gx_tail hx)
    · rename_i hc
      simp only [beq_eq_false_iff_ne, ne_eq] at hc
      rcases h0 with h0 | ⟨x, h1, h2⟩
      · exact absurd h0 hc
      · split
        · rename_i h3
          simp only [beq_iff_eq] at h3
          have h4 : ls[c.2.1.2.1]? = some (.val (.int x)) := by
            obtain ⟨c1, ⟨d1, d2, d3⟩, c3⟩ := c
            dsimp only at h3
            subst h3
            exact h1
          obtain ⟨a1, a2⟩ := ev_tgL_ok hl h4 h2
          obtain ⟨b1, b2, b3⟩ := ev_tgs_ok a2 hf (ev_gx_tail hx)
          exact ⟨b1.trans a1, b2, b3⟩
        · refine ev_tgs_ok hl (fun f hf1 => ?_) (ev_gx_tail hx)
          rcases List.mem_cons.mp hf1 with rfl | hf1
          · exact ⟨x, h1, ev_fq_ok hf h1 (en_full_in x), x, rfl, by show _ = γ k + 0; omega⟩
          · exact hf f hf1
/-- a head's state bears no mark -/
def ev_ng (L : List ev_l) (FS : List ev_f) : Bool := L.all (fun q => match q with
  | some (_, some _) => false
  | _ => true) && FS.all (fun f => f.2.2.isNone)
theorem ev_ng_lo (h : ev_ng L FS = true) (hl : ev_lo N ad γ L ls) : ev_lo N ad γ' L ls := by
  unfold ev_ng at h
  rw [Bool.and_eq_true] at h
  intro i q hi
  obtain ⟨x, h1, h2, h3⟩ := hl i q hi
  have h4 := List.all_eq_true.mp h.1 _ (List.mem_of_getElem? hi)
  obtain ⟨a, g⟩ := q
  cases g with
  | none => exact ⟨x, h1, h2, trivial⟩
  | some u => cases h4
theorem ev_ng_f (h : ev_ng L FS = true) (hf : ∀ f ∈ FS, ev_fact γ ls ws f) : ∀ f ∈ FS, ev_fact γ' ls ws f := by
  unfold ev_ng at h
  rw [Bool.and_eq_true] at h
  intro f hf1
  obtain ⟨x, h1, h2, h3⟩ := hf f hf1
  have h4 := List.all_eq_true.mp h.2 f hf1
  simp only [Option.isNone_iff_eq_none] at h4
  exact ⟨x, h1, h2, by rw [h4]; trivial⟩
/-- a measure's places hold numbers -/
def ev_mk (T : en_T) (L : List ev_l) (c : ev_m) : Bool := match c.1 == 0 with
  | true => true
  | false => match c.2.1.1 with
    | 1 => match L[c.2.1.2.1]? with
      | some (some (.inl _, _)) => true
      | _ => false
    | 2 => match T[c.2.1.2.1]? with
      | some (.inr q) => match q.2[c.2.1.2.2]? with
        | some (.inl _) => true
        | _ => false
      | _ => false
    | _ => false
theorem ev_mk_ok {tys : List (ClassId × FieldType)} {T : en_T} {c : ev_m} (hl : ev_lo T.length ad γ L ls) (hw : ev_w tys T ad ws) (h : ev_mk T L c = true) : c.1 = 0 ∨ ∃ x : Int32, ev_loc ls ws c.2.1 x := by
  obtain ⟨c1, ⟨d1, d2, d3⟩, c3⟩ := c
  unfold ev_mk at h
  split at h
  · rename_i hc
    exact Or.inl (by simpa using hc)
  · refine Or.inr ?_
    split at h
    · rename_i hk
      dsimp only at hk
      subst hk
      split at h
      · rename_i b g hq
        obtain ⟨x, h1, ⟨z, rfl, h2⟩, h3⟩ := hl d2 _ hq
        exact ⟨z, h1⟩
      · cases h
    · rename_i hk
      dsimp only at hk
      subst hk
      split at h
      · rename_i q hq
        split at h
        · rename_i b hb
          obtain ⟨e0, g1, vs, rfl, g2⟩ := hw.2 d2 _ hq
          obtain ⟨v, g3, z, rfl, g4⟩ := en_vs_get g2 hb
          exact ⟨z, _, _, _, g1, g3⟩
        · cases h
      · cases h
    · cases h
end EVL0
/-- one state says at least what another says -/
def ev_lle (a b : ev_l) : Bool := match b with
  | none => true
  | some y => match a with
    | some x => y.2.isNone && en_le x.1 y.1
    | none => false
def ev_sle (a b : ev_s) : Bool := en_le a.1 b.1 && b.2.1 == 0
def ev_rle (L : List ev_l) (RS : List ev_r) (r : ev_r) : Bool := RS.any (fun q => q.1 == r.1 && (q.2.1 == r.2.1 && decide (q.2.2 ≤ r.2.2))) || (match L[r.1]?, L[r.2.1]? with
  | some (some (.inl a, _)), some (some (.inl b, _)) => decide (a.2 ≤ b.1 + r.2.2)
  | _, _ => false)
def ev_sub2 (T : en_T) (st x : ev_S) : Bool := st.1 == x.1 && (en_all2 ev_lle st.2.1 x.2.1 && (en_all2 ev_sle st.2.2.1 x.2.2.1 && (x.2.2.2.1.all (ev_has T st.2.2.2.1) && x.2.2.2.2.all (ev_rle st.2.1 st.2.2.2.2))))
theorem ev_sle_ok {N : Nat} {ad : Nat → Nat} {ls : Array Slot} {ws : va_W} : ∀ {as bs : List ev_s} {xs : List Value}, en_all2 ev_sle as bs = true → ev_stk N ad ls ws as xs → ev_stk N ad ls ws bs xs
  | [], [], [], _, _ => trivial
  | a :: as, b :: bs, x :: xs, h, hs => by
    simp only [en_all2, ev_sle, Bool.and_eq_true, beq_iff_eq] at h
    exact ⟨⟨en_le_ok h.1.1 hs.1.1, Or.inl h.1.2⟩, ev_sle_ok h.2 hs.2⟩
  | [], [], _ :: _, _, hs => hs.elim
  | _ :: _, _, [], _, hs => hs.elim
  | [], _ :: _, _, h, _ => by cases h
  | _ :: _, [], _, h, _ => by cases h
theorem ev_rle_ok {N : Nat} {ad : Nat → Nat} {γ : Nat → Int} {L : List ev_l} {RS : List ev_r} {ls : Array Slot} {r : ev_r} (hl : ev_lo N ad γ L ls) (hR : ∀ r ∈ RS, ev_rel ls r) (h : ev_rle L RS r = true) : ev_rel ls r := by
  unfold ev_rle at h
  rw [Bool.or_eq_true] at h
  rcases h with h | h
  · obtain ⟨q, h1, h2⟩ := List.any_eq_true.mp h
    simp only [Bool.and_eq_true, beq_iff_eq, decide_eq_true_eq] at h2
    obtain ⟨x, y, h3, h4, h5⟩ := hR q h1
    exact ⟨x, y, by rw [← h2.1]; exact h3, by rw [← h2.2.1]; exact h4, by omega⟩
  · split at h
    · rename_i a g b g' ha hb
      simp only [decide_eq_true_eq] at h
      obtain ⟨x, h1, ⟨z, rfl, h2⟩, -⟩ := hl _ _ ha
      obtain ⟨y, h3, ⟨w, rfl, h4⟩, -⟩ := hl _ _ hb
      exact ⟨z, w, h1, h3, by have := h2.2; have := h4.1; omega⟩
    · cases h
theorem ev_sub2_at {s : State} {D : va_G} {tys : List (ClassId × FieldType)} {T : en_T} {I : va_W → Prop} {b0 nL : Nat} {ad : Nat → Nat} {w0 : va_W} {Wr : List (Nat × Nat)} {γ γ' : Nat → Int} {st x : ev_S} {H : Heap} {locs : List Loc} {ls : Array Slot} {stk : List Value} {ws : va_W} (h : ev_sub2 T st x = true) (ha : ev_at s D tys T I b0 nL ad w0 Wr γ st.2.1 st.2.2.1 st.2.2.2.1 st.2.2.2.2 H locs ls stk ws) : st.1 = x.1 ∧ ev_at s D tys T I b0 nL ad w0 Wr γ' x.2.1 x.2.2.1 x.2.2.2.1 x.2.2.2.2 H locs ls stk ws := by
  unfold ev_sub2 at h
  simp only [Bool.and_eq_true, beq_iff_eq] at h
  obtain ⟨h1, h2, h3, h4, h5⟩ := h
  obtain ⟨⟨z1, z2, z3⟩, hl, hs, hf, hR, hr⟩ := ha
  refine ⟨h1, ⟨z1, z2, (en_all2_len h2).symm.trans z3⟩, fun i q hi => ?_, ev_sle_ok h3 hs, fun f hf1 => ?_, fun r hr1 => ev_rle_ok hl hR (List.all_eq_true.mp h5 r hr1), hr⟩
  · obtain ⟨b, g1, g2⟩ := en_all2_get h2 hi
    unfold ev_lle at g2
    cases b with
    | none => cases g2
    | some y =>
      obtain ⟨v, g3, g4, g5⟩ := hl i y g1
      simp only [Bool.and_eq_true, Option.isNone_iff_eq_none] at g2
      exact ⟨v, g3, en_le_ok g2.2 g4, by rw [g2.1]; trivial⟩
  · have h6 := List.all_eq_true.mp h4 f hf1
    have h7 := ev_has_ok hf hr.1 h6
    obtain ⟨y, h8, h9⟩ := ev_ff_use (γ := γ) (ls := ls) h7
    unfold ev_has at h6
    simp only [Bool.and_eq_true, Option.isNone_iff_eq_none] at h6
    exact ⟨y, h8, h9, by rw [h6.2.1]; trivial⟩
