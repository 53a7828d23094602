def ev_sh (t : ev_t) (n : Int) : ev_t := match t.1 == 0 with
  | true => ev_nt
  | false => (t.1, t.2.1, t.2.2.1, t.2.2.2 + n)
theorem ev_sh_ok {ls : Array Slot} {ws : va_W} {t : ev_t} {n : Int} {x y : Int32} (h : ev_tag ls ws t (.int x)) (hn : y.toInt = x.toInt + n) : ev_tag ls ws (ev_sh t n) (.int y) := by
  unfold ev_sh
  split
  · exact ev_tag0
  · rename_i hb
    simp only [beq_eq_false_iff_ne, ne_eq] at hb
    rcases h with h | ⟨u, z, e1, e2, e3⟩
    · exact absurd h hb
    · cases e1
      exact Or.inr ⟨y, z, rfl, e2, by dsimp only; omega⟩
def ev_fit (a b : Int) : Bool := decide (-2147483648 ≤ a) && decide (b ≤ 2147483647)
def ev_ta (q r : Int × Int) (tq tr : ev_t) : ev_t := match ev_fit (q.1 + r.1) (q.2 + r.2) with
  | true => match decide (r.1 = r.2) with
    | true => ev_sh tq r.1
    | false => match decide (q.1 = q.2) with
      | true => ev_sh tr q.1
      | false => ev_nt
  | false => ev_nt
def ev_ts (q r : Int × Int) (tq : ev_t) : ev_t := match ev_fit (q.1 - r.2) (q.2 - r.1) && decide (r.1 = r.2) with
  | true => ev_sh tq (-r.1)
  | false => ev_nt
def ev_sub (q r : Int × Int) : Int × Int := match decide (q.2 - r.1 < -2147483648) with
  | true => (q.1 - r.2 + 4294967296, q.2 - r.1 + 4294967296)
  | false => en_sub q r
theorem fb_subW {x y : Int32} (h : x.toInt - y.toInt < -2147483648) : (x - y).toInt = x.toInt - y.toInt + 4294967296 := by
  have h1 := fb_rng x
  have h2 := fb_rng y
  rw [Int32.toInt_sub, ← fb_bmod (z := x.toInt - y.toInt + 4294967296) (by omega) (by omega)]
  exact (Int.add_bmod_right (x.toInt - y.toInt) (2 ^ 32)).symm
theorem ev_sub_in {q r : Int × Int} {x y : Int32} (hx : en_in q x) (hy : en_in r y) : en_in (ev_sub q r) (x - y) := by
  unfold ev_sub
  split
  · rename_i h
    simp only [decide_eq_true_eq] at h
    obtain ⟨a1, a2⟩ := hx
    obtain ⟨a3, a4⟩ := hy
    have e := fb_subW (x := x) (y := y) (by omega)
    exact ⟨by rw [e]; dsimp only; omega, by rw [e]; dsimp only; omega⟩
  · exact en_sub_in hx hy
def ev_rem (q r : Int × Int) : Int × Int := (if 0 ≤ q.1 then 0 else -(r.2 - 1), if q.2 ≤ 0 then 0 else r.2 - 1)
def ev_max (a b : Int) : Int := if a ≤ b then b else a
def ev_min (a b : Int) : Int := if a ≤ b then a else b
theorem ev_max_le {a b c : Int} (h1 : a ≤ c) (h2 : b ≤ c) : ev_max a b ≤ c := by unfold ev_max; split <;> assumption
theorem ev_le_min {a b c : Int} (h1 : c ≤ a) (h2 : c ≤ b) : c ≤ ev_min a b := by unfold ev_min; split <;> assumption
/-- what is known of a place -/
def ev_lk (FS : List ev_f) (q : Nat × Nat × Nat) : Option ((Int × Int) × Option (Nat × Int)) := match FS with
  | [] => none
  | f :: fs => match f.1 == q with
    | true => some f.2
    | false => ev_lk fs q
theorem ev_lk_ok {γ : Nat → Int} {ls : Array Slot} {ws : va_W} {q : Nat × Nat × Nat} {u : (Int × Int) × Option (Nat × Int)} : ∀ {FS : List ev_f}, (∀ f ∈ FS, ev_fact γ ls ws f) → ev_lk FS q = some u → ∃ x : Int32, ev_loc ls ws q x ∧ en_in u.1 x ∧ ev_gt γ u.2 (.int x)
  | [], _, h => by cases h
  | f :: fs, hf, h => by
    unfold ev_lk at h
    split at h
    · rename_i hb
      simp only [beq_iff_eq] at hb
      cases h
      have h1 := hf f List.mem_cons_self
      unfold ev_fact at h1
      rw [hb] at h1
      exact h1
    · exact ev_lk_ok (fun g hg => hf g (List.mem_cons_of_mem _ hg)) h
def ev_meet (a b : Int × Int) : Int × Int := (ev_max a.1 b.1, ev_min a.2 b.2)
theorem ev_meet_in {a b : Int × Int} {x : Int32} (h1 : en_in a x) (h2 : en_in b x) : en_in (ev_meet a b) x := ⟨ev_max_le h1.1 h2.1, ev_le_min h1.2 h2.2⟩
/-- the value with a tag is within bounds -/
def ev_rfl (L : List ev_l) (a : Nat) (b : Int × Int) : List ev_l := match L[a]? with
  | some (some (.inl q, g)) => L.set a (some (.inl (ev_meet q b), g))
  | _ => L
def ev_rff (FS : List ev_f) (q : Nat × Nat × Nat) (b : Int × Int) : List ev_f := match ev_lk FS q with
  | some u => (q, ev_meet u.1 b, u.2) :: FS
  | none => (q, b, none) :: FS
def ev_rf (L : List ev_l) (FS : List ev_f) (t : ev_t) (b : Int × Int) : List ev_l × List ev_f := match t.1 with
  | 0 => (L, FS)
  | 1 => (ev_rfl L t.2.1 (b.1 - t.2.2.2, b.2 - t.2.2.2), FS)
  | k + 2 => (L, ev_rff FS (k + 2, t.2.1, t.2.2.1) (b.1 - t.2.2.2, b.2 - t.2.2.2))
theorem ev_rfl_ok {N : Nat} {ad : Nat → Nat} {γ : Nat → Int} {L : List ev_l} {ls : Array Slot} {a : Nat} {b : Int × Int} {y : Int32} (hl : ev_lo N ad γ L ls) (e2 : ls[a]? = some (.val (.int y))) (hy : en_in b y) : (ev_rfl L a b).length = L.length ∧ ev_lo N ad γ (ev_rfl L a b) ls := by
  unfold ev_rfl
  split
  · rename_i q g hq
    refine ⟨List.length_set, fun j u hj => ?_⟩
    by_cases hja : j = a
    · subst hja
      rw [List.getElem?_set_self (List.getElem?_eq_some_iff.mp hq).1] at hj
      cases hj
      obtain ⟨x, g1, ⟨z, rfl, g2⟩, g3⟩ := hl j _ hq
      have ezy : z = y := Value.int.inj (Slot.val.inj (Option.some.inj (g1.symm.trans e2)))
      subst ezy
      exact ⟨_, g1, ⟨z, rfl, ev_meet_in g2 hy⟩, g3⟩
    · rw [List.getElem?_set_ne (Ne.symm hja)] at hj
      exact hl j u hj
  · exact ⟨rfl, hl⟩
theorem ev_rff_ok {γ : Nat → Int} {FS : List ev_f} {ls : Array Slot} {ws : va_W} {q : Nat × Nat × Nat} {b : Int × Int} {y : Int32} (hf : ∀ f ∈ FS, ev_fact γ ls ws f) (e2 : ev_loc ls ws q y) (hy : en_in b y) : ∀ f ∈ ev_rff FS q b, ev_fact γ ls ws f := by
  intro f hf1
  unfold ev_rff at hf1
  split at hf1
  · rename_i u hu
    rcases List.mem_cons.mp hf1 with rfl | hf1
    · obtain ⟨x, g1, g2, g3⟩ := ev_lk_ok hf hu
      have exy : x = y := ev_loc_one g1 e2
      subst exy
      exact ⟨x, g1, ev_meet_in g2 hy, g3⟩
    · exact hf f hf1
  · rcases List.mem_cons.mp hf1 with rfl | hf1
    · exact ⟨y, e2, hy, trivial⟩
    · exact hf f hf1
theorem ev_rf_ok {N : Nat} {ad : Nat → Nat} {γ : Nat → Int} {L : List ev_l} {FS : List ev_f} {ls : Array Slot} {ws : va_W} {t : ev_t} {b : Int × Int} {v : Int32} (hl : ev_lo N ad γ L ls) (hf : ∀ f ∈ FS, ev_fact γ ls ws f) (ht : ev_tag ls ws t (.int v)) (hv : en_in b v) : (ev_rf L FS t b).1.length = L.length ∧ ev_lo N ad γ (ev_rf L FS t b).1 ls ∧ ∀ f ∈ (ev_rf L FS t b).2, ev_fact γ ls ws f := by
  obtain ⟨k, a, i, off⟩ := t
  have hv1 := hv.1
  have hv2 := hv.2
  match k, ht with
  | 0, ht => exact ⟨rfl, hl, hf⟩
  | 1, ht =>
    rcases ht with h0 | ⟨u, y, e1, e2, e3⟩
    · cases h0
    · cases e1
      have e3 : v.toInt = y.toInt + off := e3
      have h := ev_rfl_ok (b := (b.1 - off, b.2 - off)) hl (e2 : ls[a]? = some (.val (.int y))) ⟨by dsimp only; omega, by dsimp only; omega⟩
      exact ⟨h.1, h.2, hf⟩
  | k + 2, ht =>
    rcases ht with h0 | ⟨u, y, e1, e2, e3⟩
    · cases h0
    · cases e1
      have e3 : v.toInt = y.toInt + off := e3
      exact ⟨rfl, hl, ev_rff_ok (b := (b.1 - off, b.2 - off)) hf e2 ⟨by dsimp only; omega, by dsimp only; omega⟩⟩
def ev_cmp (cd : Jvm.ClassFile.Cond) (q r : Int × Int) : (Int × Int) × (Int × Int) := match cd with
  | .lt => ((q.1, ev_min q.2 (r.2 - 1)), (ev_max r.1 (q.1 + 1), r.2))
  | .ge => ((ev_max q.1 r.1, q.2), (r.1, ev_min r.2 q.2))
  | .gt => ((ev_max q.1 (r.1 + 1), q.2), (r.1, ev_min r.2 (q.2 - 1)))
  | .le => ((q.1, ev_min q.2 r.2), (ev_max r.1 q.1, r.2))
  | .eq => (ev_meet q r, ev_meet q r)
  | .ne => ((if r.1 = r.2 ∧ q.1 = r.1 then q.1 + 1 else q.1, if r.1 = r.2 ∧ q.2 = r.1 then q.2 - 1 else q.2), (if q.1 = q.2 ∧ r.1 = q.1 then r.1 + 1 else r.1, if q.1 = q.2 ∧ r.2 = q.1 then r.2 - 1 else r.2))
def ev_cd (cd : Jvm.ClassFile.Cond) (x y : Int) : Prop := match cd with
  | .lt => x < y
  | .ge => y ≤ x
  | .gt => y < x
  | .le => x ≤ y
  | .eq => x = y
  | .ne => x ≠ y
theorem ev_cmp_ok {cd : Jvm.ClassFile.Cond} {q r : Int × Int} {x y : Int32} (hx : en_in q x) (hy : en_in r y) (h : ev_cd cd x.toInt y.toInt) : en_in (ev_cmp cd q r).1 x ∧ en_in (ev_cmp cd q r).2 y := by
  obtain ⟨h1, h2⟩ := hx
  obtain ⟨h3, h4⟩ := hy
  cases cd
  · have h : x.toInt = y.toInt := h
    exact ⟨ev_meet_in ⟨h1, h2⟩ ⟨by omega, by omega⟩, ev_meet_in ⟨by omega, by omega⟩ ⟨h3, h4⟩⟩
  · have h : x.toInt ≠ y.toInt := h
    refine ⟨⟨?_, ?_⟩, ⟨?_, ?_⟩⟩ <;> dsimp only [ev_cmp] <;> split <;> omega
  · have h : x.toInt < y.toInt := h
    exact ⟨⟨h1, ev_le_min h2 (by omega)⟩, ⟨ev_max_le h3 (by omega), h4⟩⟩
  · have h : y.toInt ≤ x.toInt := h
    exact ⟨⟨ev_max_le h1 (by omega), h2⟩, ⟨h3, ev_le_min h4 (by omega)⟩⟩
  · have h : y.toInt < x.toInt := h
    exact ⟨⟨ev_max_le h1 (by omega), h2⟩, ⟨h3, ev_le_min h4 (by omega)⟩⟩
  · have h : x.toInt ≤ y.toInt := h
    exact ⟨⟨h1, ev_le_min h2 (by omega)⟩, ⟨ev_max_le h3 (by omega), h4⟩⟩
def ev_neg (cd : Jvm.ClassFile.Cond) : Jvm.ClassFile.Cond := match cd with
  | .lt => .ge
  | .ge => .lt
  | .gt => .le
  | .le => .gt
  | .eq => .ne
  | .ne => .eq
theorem ev_neg_ok {cd : Jvm.ClassFile.Cond} {x y : Int} (h : ¬ ev_cd cd x y) : ev_cd (ev_neg cd) x y := by
  cases cd <;> simp only [ev_cd, ev_neg, ne_eq, Decidable.not_not] at h ⊢ <;> omega
/-- one side of a branch -/
def ev_side (cd : Jvm.ClassFile.Cond) (q r : Int × Int) (tq tr : ev_t) (pc : Nat) (L : List ev_l) (S : List ev_s) (FS : List ev_f) (RS : List ev_r) : List ev_S := match decide ((ev_cmp cd q r).1.1 ≤ (ev_cmp cd q r).1.2) && decide ((ev_cmp cd q r).2.1 ≤ (ev_cmp cd q r).2.2) with
  | true => [(pc, (ev_rf (ev_rf L FS tq (ev_cmp cd q r).1).1 (ev_rf L FS tq (ev_cmp cd q r).1).2 tr (ev_cmp cd q r).2).1, S, (ev_rf (ev_rf L FS tq (ev_cmp cd q r).1).1 (ev_rf L FS tq (ev_cmp cd q r).1).2 tr (ev_cmp cd q r).2).2, RS)]
  | false => []
/-- 'not 0', split where 0 lies within -/
def ev_sides (cd : Jvm.ClassFile.Cond) (q r : Int × Int) (tq tr : ev_t) (pc : Nat) (L : List ev_l) (S : List ev_s) (FS : List ev_f) (RS : List ev_r) : List ev_S := match decide (cd = .ne) && (decide (r = (0, 0)) && (decide (q.1 < 0) && decide (0 < q.2))) with
  | true => ev_side .ne (q.1, -1) r tq tr pc L S FS RS ++ ev_side .ne (1, q.2) r tq tr pc L S FS RS
  | false => ev_side cd q r tq tr pc L S FS RS
section EVB
variable {p : Program} {l : Launch} {e : Env} {R : Room} {s : State} {m : MethodId} {args : Array Value} {below : List Frame} {meth : Method} {c : Code} {Q : State → Prop} {cc : ByteArray} {D : va_G} {tys : List (ClassId × FieldType)} {T : en_T} {I : va_W → Prop} {aK aV b0 nL o : Nat} {ad : Nat → Nat} {w0 : va_W} {Wr : List (Nat × Nat)} {γ : Nat → Int}
variable {pc : Nat} {L : List ev_l} {S : List ev_s} {FS : List ev_f} {RS : List ev_r}
theorem ev_side_ok {cd : Jvm.ClassFile.Cond} {q r : Int × Int} {tq tr : ev_t} {pc' : Nat} {x y : Int32} {H : Heap} {locs : List Loc} {ls : Array Slot} {stk : List Value} {ws : va_W} (h : ev_at s D tys T I b0 nL ad w0 Wr γ L S FS RS H locs ls stk ws) (hx : en_in q x) (hy : en_in r y) (tx : ev_tag ls ws tq (.int x)) (ty : ev_tag ls ws tr (.int y)) (hc : ev_cd cd x.toInt y.toInt)
    (k : ∀ st ∈ ev_side cd q r tq tr pc' L S FS RS, ev_go p l e R s m args below meth c Q D tys T I b0 nL ad w0 Wr γ st) : W p l e R s m args below meth c H locs 0 0 Q (F0 m pc' ls stk) := by
  obtain ⟨h1, h2⟩ := ev_cmp_ok hx hy hc
  unfold ev_side at k
  have hb : (decide ((ev_cmp cd q r).1.1 ≤ (ev_cmp cd q r).1.2) && decide ((ev_cmp cd q r).2.1 ≤ (ev_cmp cd q r).2.2)) = true := by
    simp only [Bool.and_eq_true, decide_eq_true_eq]
    exact ⟨Int.le_trans h1.1 h1.2, Int.le_trans h2.1 h2.2⟩
  rw [hb] at k
  obtain ⟨⟨z1, z2, z3⟩, hl, hs, hf, hR, hr⟩ := h
  obtain ⟨a1, a2, a3⟩ := ev_rf_ok hl hf tx h1
  obtain ⟨c1, c2, c3⟩ := ev_rf_ok a2 a3 ty h2
  exact k _ List.mem_cons_self H locs ls stk ws ⟨⟨z1, z2, by dsimp only; rw [c1, a1]; exact z3⟩, c2, hs, c3, hR, hr⟩
theorem ev_sides_ok {cd : Jvm.ClassFile.Cond} {q r : Int × Int} {tq tr : ev_t} {pc' : Nat} {x y : Int32} {H : Heap} {locs : List Loc} {ls : Array Slot} {stk : List Value} {ws : va_W} (h : ev_at s D tys T I b0 nL ad w0 Wr γ L S FS RS H locs ls stk ws) (hx : en_in q x) (hy : en_in r y) (tx : ev_tag ls ws tq (.int x)) (ty : ev_tag ls ws tr (.int y)) (hc : ev_cd cd x.toInt y.toInt)
    (k : ∀ st ∈ ev_sides cd q r tq tr pc' L S FS RS, ev_go p l e R s m args below meth c Q D tys T I b0 nL ad w0 Wr γ st) : W p l e R s m args below meth c H locs 0 0 Q (F0 m pc' ls stk) := by
  unfold ev_sides at k
  split at k
  · rename_i hb
    simp only [Bool.and_eq_true, decide_eq_true_eq] at hb
    obtain ⟨b1, b2, b3, b4⟩ := hb
    subst b1
    subst b2
    have hc2 : x.toInt ≠ y.toInt := hc
    have h0 : y.toInt = 0 := by
      obtain ⟨e1, e2⟩ := hy
      dsimp only at e1 e2
      omega
    obtain ⟨e3, e4⟩ := hx
    rcases (show x.toInt ≤ -1 ∨ 1 ≤ x.toInt by omega) with hz | hz
    · exact ev_side_ok h (q := (q.1, -1)) ⟨e3, hz⟩ hy tx ty hc (fun st hst => k st (List.mem_append_left _ hst))
    · exact ev_side_ok h (q := (1, q.2)) ⟨hz, e4⟩ hy tx ty hc (fun st hst => k st (List.mem_append_right _ hst))
  · exact ev_side_ok h hx hy tx ty hc k
theorem en_tgt {pc : Nat} {off : Int} (h : decide (0 ≤ (pc : Int) + off) = true) : (pc : Int) + off = ((((pc : Int) + off).toNat : Nat) : Int) := by
  simp only [decide_eq_true_eq] at h
  omega
theorem fs_icmp (C : ev_cx p s m args meth c cc nL o D tys aK aV b0) {cd : Jvm.ClassFile.Cond} {off : Int} {q r : Int × Int} {tq tr : ev_t} (ht : decide (0 ≤ (pc : Int) + off) = true) (hd : decode cc pc = .ok (.if_icmp cd off, 3))
    (k : ∀ st ∈ ev_sides cd q r tq tr ((pc : Int) + off).toNat L S FS RS ++ ev_sides (ev_neg cd) q r tq tr (pc + 3) L S FS RS, ev_go p l e R s m args below meth c Q D tys T I b0 nL ad w0 Wr γ st) : ev_go p l e R s m args below meth c Q D tys T I b0 nL ad w0 Wr γ (pc, L, (.inl r, tr) :: (.inl q, tq) :: S, FS, RS) := by
  intro H locs ls stk ws h
  dsimp only at h
  obtain ⟨h0, hl, hs, hr⟩ := h
  obtain ⟨y0, ys, rfl, ⟨y, rfl, hy⟩, ty, hs1⟩ := ev_stk_cons hs
  obtain ⟨x0, zs, rfl, ⟨x, rfl, hx⟩, tx, hs2⟩ := ev_stk_cons hs1
  have kt : ev_cd cd x.toInt y.toInt → W p l e R s m args below meth c H locs 0 0 Q (F0 m ((pc : Int) + off).toNat ls zs) := fun hc => ev_sides_ok ⟨h0, hl, hs2, hr⟩ hx hy tx ty hc (fun st hst => k st (List.mem_append_left _ hst))
  have kf : ¬ ev_cd cd x.toInt y.toInt → W p l e R s m args below meth c H locs 0 0 Q (F0 m (pc + 3) ls zs) := fun hc => ev_sides_ok ⟨h0, hl, hs2, hr⟩ hx hy tx ty (ev_neg_ok hc) (fun st hst => k st (List.mem_append_right _ hst))
  cases cd
  · exact lv_icmp_eq C.1 C.2.1 hd (en_tgt ht) (fun h => kt ((fa_eq _ _).mp h)) (fun h => kf (fun h2 => h ((fa_eq _ _).mpr h2)))
  · exact lv_icmp_ne C.1 C.2.1 hd (en_tgt ht) (fun h => kt (fun h2 => h ((fa_eq _ _).mpr h2))) (fun h => kf (fun h2 => h2 ((fa_eq _ _).mp h)))
  · exact lv_icmp_lt C.1 C.2.1 hd (en_tgt ht) (fun h => kt ((fa_lt _ _).mp h)) (fun h => kf (fun h2 => h ((fa_lt _ _).mpr h2)))
  · exact lv_icmp_ge C.1 C.2.1 hd (en_tgt ht) (fun h => kt ((fa_le _ _).mp h)) (fun h => kf (fun h2 => h ((fa_le _ _).mpr h2)))
  · exact lv_icmp_gt C.1 C.2.1 hd (en_tgt ht) (fun h => kt ((fa_lt _ _).mp h)) (fun h => kf (fun h2 => h ((fa_lt _ _).mpr h2)))
  · exact lv_icmp_le C.1 C.2.1 hd (en_tgt ht) (fun h => kt ((fa_le _ _).mp h)) (fun h => kf (fun h2 => h ((fa_le _ _).mpr h2)))
theorem fs_if (C : ev_cx p s m args meth c cc nL o D tys aK aV b0) {cd : Jvm.ClassFile.Cond} {off : Int} {q : Int × Int} {tq : ev_t} (ht : decide (0 ≤ (pc : Int) + off) = true) (hd : decode cc pc = .ok (.ifCond cd off, 3))
    (k : ∀ st ∈ ev_sides cd q (0, 0) tq ev_nt ((pc : Int) + off).toNat L S FS RS ++ ev_sides (ev_neg cd) q (0, 0) tq ev_nt (pc + 3) L S FS RS, ev_go p l e R s m args below meth c Q D tys T I b0 nL ad w0 Wr γ st) : ev_go p l e R s m args below meth c Q D tys T I b0 nL ad w0 Wr γ (pc, L, (.inl q, tq) :: S, FS, RS) := by
  intro H locs ls stk ws h
  dsimp only at h
  obtain ⟨h0, hl, hs, hr⟩ := h
  obtain ⟨x0, zs, rfl, ⟨x, rfl, hx⟩, tx, hs2⟩ := ev_stk_cons hs
  have z0 : (0 : Int32).toInt = 0 := rfl
  have hy : en_in (0, 0) (0 : Int32) := ⟨by decide, by decide⟩
  have kt : ev_cd cd x.toInt (0 : Int32).toInt → W p l e R s m args below meth c H locs 0 0 Q (F0 m ((pc : Int) + off).toNat ls zs) := fun hc => ev_sides_ok ⟨h0, hl, hs2, hr⟩ hx hy tx ev_tag0 hc (fun st hst => k st (List.mem_append_left _ hst))
  have kf : ¬ ev_cd cd x.toInt (0 : Int32).toInt → W p l e R s m args below meth c H locs 0 0 Q (F0 m (pc + 3) ls zs) := fun hc => ev_sides_ok ⟨h0, hl, hs2, hr⟩ hx hy tx ev_tag0 (ev_neg_ok hc) (fun st hst => k st (List.mem_append_right _ hst))
  cases cd
  · exact lv_if_eq C.1 C.2.1 hd (en_tgt ht) (fun h => kt ((fa_eq _ _).mp h)) (fun h => kf (fun h2 => h ((fa_eq _ _).mpr h2)))
  · exact lv_if_ne C.1 C.2.1 hd (en_tgt ht) (fun h => kt (fun h2 => h ((fa_eq _ _).mpr h2))) (fun h => kf (fun h2 => h2 ((fa_eq _ _).mp h)))
  · exact lv_if_lt C.1 C.2.1 hd (en_tgt ht) (fun h => kt ((fa_lt _ _).mp h)) (fun h => kf (fun h2 => h ((fa_lt _ _).mpr h2)))
  · exact lv_if_ge C.1 C.2.1 hd (en_tgt ht) (fun h => kt ((fa_le _ _).mp h)) (fun h => kf (fun h2 => h ((fa_le _ _).mpr h2)))
  · exact lv_if_gt C.1 C.2.1 hd (en_tgt ht) (fun h => kt ((fa_lt _ _).mp h)) (fun h => kf (fun h2 => h ((fa_lt _ _).mpr h2)))
  · exact lv_if_le C.1 C.2.1 hd (en_tgt ht) (fun h => kt ((fa_le _ _).mp h)) (fun h => kf (fun h2 => h ((fa_le _ _).mpr h2)))
theorem fs_bin {pc' : Nat} (g : Int32 → Int32 → Int32) {q r u : Int × Int} {tq tr tu : ev_t} (hfg : ∀ (ls : Array Slot) (ws : va_W) (x y : Int32), en_in q x → en_in r y → ev_tag ls ws tq (.int x) → ev_tag ls ws tr (.int y) → en_in u (g x y) ∧ ev_tag ls ws tu (.int (g x y)))
    (row : ∀ (H : Heap) (locs : List Loc) (ls : Array Slot) (rest : List Value) (x y : Int32), en_in q x → en_in r y → W p l e R s m args below meth c H locs 0 0 Q (F0 m pc' ls (.int (g x y) :: rest)) → W p l e R s m args below meth c H locs 0 0 Q (F0 m pc ls (.int y :: .int x :: rest)))
    (k : ev_go p l e R s m args below meth c Q D tys T I b0 nL ad w0 Wr γ (pc', L, (.inl u, tu) :: S, FS, RS)) : ev_go p l e R s m args below meth c Q D tys T I b0 nL ad w0 Wr γ (pc, L, (.inl r, tr) :: (.inl q, tq) :: S, FS, RS) := by
  intro H locs ls stk ws h
  dsimp only at h
  obtain ⟨h0, hl, hs, hr⟩ := h
  obtain ⟨y0, ys, rfl, ⟨y, rfl, hy⟩, ty, hs1⟩ := ev_stk_cons hs
  obtain ⟨x0, zs, rfl, ⟨x, rfl, hx⟩, tx, hs2⟩ := ev_stk_cons hs1
  obtain ⟨e1, e2⟩ := hfg ls ws x y hx hy tx ty
  exact row H locs ls zs x y hx hy (k H locs ls (.int (g x y) :: zs) ws ⟨h0, hl, ⟨⟨⟨_, rfl, e1⟩, e2⟩, hs2⟩, hr⟩)
theorem ev_ta_ok {ls : Array Slot} {ws : va_W} {q r : Int × Int} {tq tr : ev_t} {x y : Int32} (hx : en_in q x) (hy : en_in r y) (tx : ev_tag ls ws tq (.int x)) (ty : ev_tag ls ws tr (.int y)) : ev_tag ls ws (ev_ta q r tq tr) (.int (x + y)) := by
  obtain ⟨h1, h2⟩ := hx
  obtain ⟨h3, h4⟩ := hy
  unfold ev_ta
  split
  · rename_i hb
    unfold ev_fit at hb
    simp only [Bool.and_eq_true, decide_eq_true_eq] at hb
    have e := fb_addI (x := x) (y := y) (by omega) (by omega)
    split
    · rename_i hc
      simp only [decide_eq_true_eq] at hc
      exact ev_sh_ok tx (by omega)
    · split
      · rename_i hc
        simp only [decide_eq_true_eq] at hc
        exact ev_sh_ok ty (by omega)
      · exact ev_tag0
  · exact ev_tag0
theorem ev_ts_ok {ls : Array Slot} {ws : va_W} {q r : Int × Int} {tq : ev_t} {x y : Int32} (hx : en_in q x) (hy : en_in r y) (tx : ev_tag ls ws tq (.int x)) : ev_tag ls ws (ev_ts q r tq) (.int (x - y)) := by
  obtain ⟨h1, h2⟩ := hx
  obtain ⟨h3, h4⟩ := hy
  unfold ev_ts
  split
  · rename_i hb
    unfold ev_fit at hb
    simp only [Bool.and_eq_true, decide_eq_true_eq] at hb
    have e := fb_subI (x := x) (y := y) (by omega) (by omega)
    exact ev_sh_ok tx (by omega)
  · exact ev_tag0
theorem fs_dup (C : ev_cx p s m args meth c cc nL o D tys aK aV b0) {a : ev_s} (hd : decode cc pc = .ok (.dup, 1)) (k : ev_go p l e R s m args below meth c Q D tys T I b0 nL ad w0 Wr γ (pc + 1, L, a :: a :: S, FS, RS)) : ev_go p l e R s m args below meth c Q D tys T I b0 nL ad w0 Wr γ (pc, L, a :: S, FS, RS) := by
  intro H locs ls stk ws h
  dsimp only at h
  obtain ⟨h0, hl, hs, hr⟩ := h
  obtain ⟨x, ys, rfl, hx, tx, hs1⟩ := ev_stk_cons hs
  exact lv_dup C.1 C.2.1 hd (en_v_cat hx) (k H locs ls (x :: x :: ys) ws ⟨h0, hl, ⟨⟨hx, tx⟩, ⟨hx, tx⟩, hs1⟩, hr⟩)
theorem fs_dup2 (C : ev_cx p s m args meth c cc nL o D tys aK aV b0) {a b : ev_s} (hd : decode cc pc = .ok (.dup2, 1)) (k : ev_go p l e R s m args below meth c Q D tys T I b0 nL ad w0 Wr γ (pc + 1, L, a :: b :: a :: b :: S, FS, RS)) : ev_go p l e R s m args below meth c Q D tys T I b0 nL ad w0 Wr γ (pc, L, a :: b :: S, FS, RS) := by
  intro H locs ls stk ws h
  dsimp only at h
  obtain ⟨h0, hl, hs, hr⟩ := h
  obtain ⟨x, ys, rfl, hx, tx, hs1⟩ := ev_stk_cons hs
  obtain ⟨y, zs, rfl, hy, ty, hs2⟩ := ev_stk_cons hs1
  exact lv_dup2_11 C.1 C.2.1 hd (en_v_cat hx) (en_v_cat hy) (k H locs ls (x :: y :: x :: y :: zs) ws ⟨h0, hl, ⟨⟨hx, tx⟩, ⟨hy, ty⟩, ⟨hx, tx⟩, ⟨hy, ty⟩, hs2⟩, hr⟩)
theorem fs_pop (C : ev_cx p s m args meth c cc nL o D tys aK aV b0) {a : ev_s} (hd : decode cc pc = .ok (.pop, 1)) (k : ev_go p l e R s m args below meth c Q D tys T I b0 nL ad w0 Wr γ (pc + 1, L, S, FS, RS)) : ev_go p l e R s m args below meth c Q D tys T I b0 nL ad w0 Wr γ (pc, L, a :: S, FS, RS) := by
  intro H locs ls stk ws h
  dsimp only at h
  obtain ⟨h0, hl, hs, hr⟩ := h
  obtain ⟨x, ys, rfl, hx, tx, hs1⟩ := ev_stk_cons hs
  exact lv_pop C.1 C.2.1 hd (en_v_cat hx) (k H locs ls ys ws ⟨h0, hl, hs1, hr⟩)
theorem fs_un {pc' : Nat} {q r : Int × Int} {tq tr : ev_t} (g : Int32 → Int32) (hg : ∀ x, en_in q x → en_in r (g x)) (ht : tr = ev_nt)
    (row : ∀ (H : Heap) (locs : List Loc) (ls : Array Slot) (rest : List Value) (x : Int32), W p l e R s m args below meth c H locs 0 0 Q (F0 m pc' ls (.int (g x) :: rest)) → W p l e R s m args below meth c H locs 0 0 Q (F0 m pc ls (.int x :: rest)))
    (k : ev_go p l e R s m args below meth c Q D tys T I b0 nL ad w0 Wr γ (pc', L, (.inl r, tr) :: S, FS, RS)) : ev_go p l e R s m args below meth c Q D tys T I b0 nL ad w0 Wr γ (pc, L, (.inl q, tq) :: S, FS, RS) := by
  intro H locs ls stk ws h
  dsimp only at h
  obtain ⟨h0, hl, hs, hr⟩ := h
  obtain ⟨y0, ys, rfl, ⟨y, rfl, hy⟩, ty, hs1⟩ := ev_stk_cons hs
  exact row H locs ls ys y (k H locs ls (.int (g y) :: ys) ws ⟨h0, hl, ⟨⟨⟨_, rfl, hg y hy⟩, by rw [ht]; exact ev_tag0⟩, hs1⟩, hr⟩)
theorem fs_goto (C : ev_cx p s m args meth c cc nL o D tys aK aV b0) {off : Int} (ht : decide (0 ≤ (pc : Int) + off) = true) (hd : decode cc pc = .ok (.goto off, 3)) (k : ev_go p l e R s m args below meth c Q D tys T I b0 nL ad w0 Wr γ (((pc : Int) + off).toNat, L, S, FS, RS)) : ev_go p l e R s m args below meth c Q D tys T I b0 nL ad w0 Wr γ (pc, L, S, FS, RS) := by
  intro H locs ls stk ws h
  exact lv_goto C.1 C.2.1 hd (en_tgt ht) (k H locs ls stk ws h)
/-- a value is split at cuts: the state once for each piece -/
def ev_cut (q : Int × Int) : List Int → List (Int × Int)
  | [] => [q]
  | c :: cs => match decide (q.1 ≤ c) && decide (c < q.2) with
    | true => (q.1, c) :: ev_cut (c + 1, q.2) cs
    | false => ev_cut q cs
theorem ev_cut_ok {x : Int32} : ∀ {cs : List Int} {q : Int × Int}, en_in q x → ∃ u ∈ ev_cut q cs, en_in u x
  | [], q, h => ⟨q, List.mem_cons_self, h⟩
  | c :: cs, q, h => by
    unfold ev_cut
    split
    · rcases Int.lt_or_le c x.toInt with hc | hc
      · obtain ⟨u, h1, h2⟩ := ev_cut_ok (cs := cs) (q := (c + 1, q.2)) ⟨hc, h.2⟩
        exact ⟨u, List.mem_cons_of_mem _ h1, h2⟩
      · exact ⟨(q.1, c), List.mem_cons_self, ⟨h.1, hc⟩⟩
    · exact ev_cut_ok h
end EVB
