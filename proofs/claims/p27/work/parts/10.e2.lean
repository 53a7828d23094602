theorem fb_tm {x y : Int32} (hy : 0 < y.toInt) : (x - x / y * y).toInt = x.toInt.tmod y.toInt := by
  have h1 := fb_rng x
  have h2 := fb_rng y
  have e := Int.mul_tdiv_add_tmod x.toInt y.toInt
  have hc : y.toInt * x.toInt.tdiv y.toInt = x.toInt.tdiv y.toInt * y.toInt := Int.mul_comm _ _
  rcases Int.lt_or_le x.toInt 0 with hx | hx
  · have g1 : -y.toInt < x.toInt.tmod y.toInt := Int.lt_tmod_of_pos x.toInt hy
    have g2 : x.toInt.tmod y.toInt ≤ 0 := by
      have h := Int.tmod_nonneg (a := -x.toInt) y.toInt (by omega)
      rw [Int.neg_tmod] at h
      omega
    have g3 : x.toInt.tdiv y.toInt ≤ 0 := by
      have h := Int.tdiv_nonneg (a := -x.toInt) (b := y.toInt) (by omega) (by omega)
      rw [Int.neg_tdiv] at h
      omega
    have g4 : x.toInt ≤ x.toInt.tdiv y.toInt := by
      have h : -(x.toInt.tdiv y.toInt) * 1 ≤ -(x.toInt.tdiv y.toInt) * y.toInt := Int.mul_le_mul_of_nonneg_left (by omega) (by omega)
      rw [Int.neg_mul, Int.neg_mul] at h
      omega
    have d : (x / y).toInt = x.toInt.tdiv y.toInt := by rw [Int32.toInt_div, fb_bmod (by omega) (by omega)]
    have d2 : (x / y * y).toInt = x.toInt.tdiv y.toInt * y.toInt := by rw [Int32.toInt_mul, d, fb_bmod (by omega) (by omega)]
    rw [fb_subI (by rw [d2]; omega) (by rw [d2]; omega), d2]
    omega
  · have g1 : x.toInt.tmod y.toInt < y.toInt := Int.tmod_lt_of_pos x.toInt hy
    have g2 : 0 ≤ x.toInt.tmod y.toInt := Int.tmod_nonneg y.toInt hx
    have g3 : 0 ≤ x.toInt.tdiv y.toInt := Int.tdiv_nonneg hx (by omega)
    have g4 : x.toInt.tdiv y.toInt ≤ x.toInt := by
      have h : x.toInt.tdiv y.toInt * 1 ≤ x.toInt.tdiv y.toInt * y.toInt := Int.mul_le_mul_of_nonneg_left (by omega) (by omega)
      omega
    have d : (x / y).toInt = x.toInt.tdiv y.toInt := by rw [Int32.toInt_div, fb_bmod (by omega) (by omega)]
    have d2 : (x / y * y).toInt = x.toInt.tdiv y.toInt * y.toInt := by rw [Int32.toInt_mul, d, fb_bmod (by omega) (by omega)]
    rw [fb_subI (by rw [d2]; omega) (by rw [d2]; omega), d2]
    omega
theorem fb_td {x y : Int32} (hy : 0 < y.toInt) : (x / y).toInt = x.toInt.tdiv y.toInt := by
  have h1 := fb_rng x
  have h2 := fb_rng y
  rcases Int.lt_or_le x.toInt 0 with hx | hx
  · have g3 : x.toInt.tdiv y.toInt ≤ 0 := by
      have h := Int.tdiv_nonneg (a := -x.toInt) (b := y.toInt) (by omega) (by omega)
      rw [Int.neg_tdiv] at h
      omega
    have g4 : x.toInt ≤ x.toInt.tdiv y.toInt := by
      have h := Int.tdiv_le_self (a := -x.toInt) y.toInt (by omega)
      rw [Int.neg_tdiv] at h
      omega
    rw [Int32.toInt_div, fb_bmod (by omega) (by omega)]
  · have g3 : 0 ≤ x.toInt.tdiv y.toInt := Int.tdiv_nonneg hx (by omega)
    have g4 : x.toInt.tdiv y.toInt ≤ x.toInt := Int.tdiv_le_self y.toInt hx
    rw [Int32.toInt_div, fb_bmod (by omega) (by omega)]
/-- remainder: bounds where the divisor is above 0 -/
def ev_irem (q r : Int × Int) : Int × Int := match decide (0 < r.1) with
  | true => ev_rem q r
  | false => en_full
theorem ev_irem_in {q r : Int × Int} {x y : Int32} (hx : en_in q x) (hy : en_in r y) : en_in (ev_irem q r) (x - x / y * y) := by
  unfold ev_irem
  split
  · rename_i h
    simp only [decide_eq_true_eq] at h
    obtain ⟨h1, h2⟩ := hx
    obtain ⟨h3, h4⟩ := hy
    have hp : 0 < y.toInt := by omega
    have e := fb_tm (x := x) hp
    have g1 : -y.toInt < x.toInt.tmod y.toInt := Int.lt_tmod_of_pos x.toInt hp
    have g2 : x.toInt.tmod y.toInt < y.toInt := Int.tmod_lt_of_pos x.toInt hp
    have g3 : 0 ≤ x.toInt → 0 ≤ x.toInt.tmod y.toInt := fun h => Int.tmod_nonneg y.toInt h
    have g4 : x.toInt ≤ 0 → x.toInt.tmod y.toInt ≤ 0 := fun h => by
      have h := Int.tmod_nonneg (a := -x.toInt) y.toInt (by omega)
      rw [Int.neg_tmod] at h
      omega
    unfold ev_rem
    constructor
    · dsimp only
      rw [e]
      split
      · exact g3 (by omega)
      · omega
    · dsimp only
      rw [e]
      split
      · exact g4 (by omega)
      · omega
  · exact en_full_in _
/-- quotient: by one number above 0 -/
def ev_idiv (q r : Int × Int) : Int × Int := match decide (0 < r.1) && decide (r.1 = r.2) with
  | true => (q.1.tdiv r.1, q.2.tdiv r.1)
  | false => en_full
theorem ev_td_mono {a b d : Int} (hd : 0 < d) (h : a ≤ b) : a.tdiv d ≤ b.tdiv d := by
  rcases Int.lt_or_le a 0 with ha | ha
  · rcases Int.lt_or_le b 0 with hb | hb
    · have h1 : (-b).tdiv d ≤ (-a).tdiv d := by
        rw [Int.tdiv_eq_ediv_of_nonneg (by omega), Int.tdiv_eq_ediv_of_nonneg (by omega)]
        exact Int.ediv_le_ediv hd (by omega)
      rw [Int.neg_tdiv, Int.neg_tdiv] at h1
      omega
    · have h1 := Int.tdiv_nonneg (a := -a) (b := d) (by omega) (by omega)
      have h2 := Int.tdiv_nonneg (a := b) (b := d) hb (by omega)
      rw [Int.neg_tdiv] at h1
      omega
  · rw [Int.tdiv_eq_ediv_of_nonneg ha, Int.tdiv_eq_ediv_of_nonneg (by omega)]
    exact Int.ediv_le_ediv hd h
theorem ev_idiv_in {q r : Int × Int} {x y : Int32} (hx : en_in q x) (hy : en_in r y) : en_in (ev_idiv q r) (x / y) := by
  unfold ev_idiv
  split
  · rename_i h
    simp only [Bool.and_eq_true, decide_eq_true_eq] at h
    obtain ⟨h1, h2⟩ := hx
    obtain ⟨h3, h4⟩ := hy
    have hp : 0 < y.toInt := by omega
    have e := fb_td (x := x) hp
    have ey : y.toInt = r.1 := by omega
    rw [ey] at e
    exact ⟨by dsimp only; rw [e]; exact ev_td_mono h.1 h1, by dsimp only; rw [e]; exact ev_td_mono h.1 h2⟩
  · exact en_full_in _
def ev_nz (r : Int × Int) : Bool := decide (0 < r.1) || decide (r.2 < 0)
theorem ev_nz_ok {r : Int × Int} {y : Int32} (h : ev_nz r = true) (hy : en_in r y) : ¬ y = 0 := by
  intro e
  subst e
  unfold ev_nz at h
  simp only [Bool.or_eq_true, decide_eq_true_eq] at h
  have z0 : (0 : Int32).toInt = 0 := rfl
  obtain ⟨h1, h2⟩ := hy
  omega
section EVM
variable {p : Program} {l : Launch} {e : Env} {R : Room} {s : State} {m : MethodId} {args : Array Value} {below : List Frame} {meth : Method} {c : Code} {Q : State → Prop} {cc : ByteArray} {D : va_G} {tys : List (ClassId × FieldType)} {T : en_T} {I : va_W → Prop} {aK aV b0 nL o : Nat} {ad : Nat → Nat} {w0 : va_W} {Wr : List (Nat × Nat)} {γ : Nat → Int}
variable {pc : Nat} {L : List ev_l} {S : List ev_s} {FS : List ev_f} {RS : List ev_r}
theorem ev_in_ok {q b : Int × Int} {tq : ev_t} {pc' : Nat} {x : Int32} {H : Heap} {locs : List Loc} {ls : Array Slot} {stk : List Value} {ws : va_W} (h : ev_at s D tys T I b0 nL ad w0 Wr γ L S FS RS H locs ls stk ws) (hx : en_in q x) (hb : en_in b x) (tx : ev_tag ls ws tq (.int x))
    (k : ∀ st ∈ ev_side .eq q b tq ev_nt pc' L S FS RS, ev_go p l e R s m args below meth c Q D tys T I b0 nL ad w0 Wr γ st) : W p l e R s m args below meth c H locs 0 0 Q (F0 m pc' ls stk) :=
  ev_side_ok (cd := .eq) (y := x) h hx hb tx ev_tag0 (show x.toInt = x.toInt from rfl) k
/-- a table of targets: one state for each number that may come, two for the rest -/
def ev_tsI (pc : Nat) (q : Int × Int) (tq : ev_t) (L : List ev_l) (S : List ev_s) (FS : List ev_f) (RS : List ev_r) : Int → List Int → List ev_S
  | _, [] => []
  | v, off :: offs => ev_side .eq q (v, v) tq ev_nt ((pc : Int) + off).toNat L S FS RS ++ ev_tsI pc q tq L S FS RS (v + 1) offs
def ev_tsw (pc : Nat) (d lo hi : Int) (offs : Array Int) (q : Int × Int) (tq : ev_t) (L : List ev_l) (S : List ev_s) (FS : List ev_f) (RS : List ev_r) : List ev_S :=
  (ev_side .eq q (-2147483648, lo - 1) tq ev_nt ((pc : Int) + d).toNat L S FS RS ++ ev_side .eq q (hi + 1, 2147483647) tq ev_nt ((pc : Int) + d).toNat L S FS RS) ++ ev_tsI pc q tq L S FS RS lo offs.toList
def ev_tsk (pc : Nat) (d lo hi : Int) (offs : Array Int) : Bool := decide ((offs.toList.length : Int) = hi - lo + 1) && (decide (0 ≤ (pc : Int) + d) && offs.toList.all (fun off => decide (0 ≤ (pc : Int) + off)))
theorem ev_tsI_mem {q : Int × Int} {tq : ev_t} {st : ev_S} {off : Int} : ∀ {offs : List Int} {v : Int} {n : Nat}, offs[n]? = some off → st ∈ ev_side .eq q (v + n, v + n) tq ev_nt ((pc : Int) + off).toNat L S FS RS → st ∈ ev_tsI pc q tq L S FS RS v offs
  | [], _, _, h, _ => by simp at h
  | o1 :: os, v, 0, h, hs => by
    rw [List.getElem?_cons_zero] at h
    cases h
    refine List.mem_append_left _ ?_
    simpa using hs
  | o1 :: os, v, n + 1, h, hs => by
    rw [List.getElem?_cons_succ] at h
    refine List.mem_append_right _ (ev_tsI_mem h ?_)
    have e1 : v + 1 + (n : Int) = v + ((n + 1 : Nat) : Int) := by omega
    rw [e1]
    exact hs
theorem fs_tsw (C : ev_cx p s m args meth c cc nL o D tys aK aV b0) {d lo hi : Int} {offs : Array Int} {len : Nat} {q : Int × Int} {tq : ev_t} (hk : ev_tsk pc d lo hi offs = true) (hd : decode cc pc = .ok (.tableswitch d lo hi offs, len))
    (k : ∀ st ∈ ev_tsw pc d lo hi offs q tq L S FS RS, ev_go p l e R s m args below meth c Q D tys T I b0 nL ad w0 Wr γ st) : ev_go p l e R s m args below meth c Q D tys T I b0 nL ad w0 Wr γ (pc, L, (.inl q, tq) :: S, FS, RS) := by
  intro H locs ls stk ws h
  dsimp only at h
  obtain ⟨h0, hl, hs, hr⟩ := h
  obtain ⟨x0, zs, rfl, ⟨x, rfl, hx⟩, tx, hs2⟩ := ev_stk_cons hs
  have hrg := fb_rng x
  unfold ev_tsk at hk
  simp only [Bool.and_eq_true, decide_eq_true_eq] at hk
  obtain ⟨k1, k2, k3⟩ := hk
  have hat : ev_at s D tys T I b0 nL ad w0 Wr γ L S FS RS H locs ls zs ws := ⟨h0, hl, hs2, hr⟩
  rcases Int.lt_or_le x.toInt lo with hlo | hlo
  · exact lv_tableOut (tgt := ((pc : Int) + d).toNat) C.1 C.2.1 hd (Or.inl hlo) (by omega) (ev_in_ok (b := (-2147483648, lo - 1)) hat hx ⟨by dsimp only; omega, by dsimp only; omega⟩ tx (fun st hst => k st (List.mem_append_left _ (List.mem_append_left _ hst))))
  · rcases Int.lt_or_le hi x.toInt with hhi | hhi
    · exact lv_tableOut (tgt := ((pc : Int) + d).toNat) C.1 C.2.1 hd (Or.inr hhi) (by omega) (ev_in_ok (b := (hi + 1, 2147483647)) hat hx ⟨by dsimp only; omega, by dsimp only; omega⟩ tx (fun st hst => k st (List.mem_append_left _ (List.mem_append_right _ hst))))
    · have hn : (x.toInt - lo).toNat < offs.toList.length := by omega
      have ho : offs.toList[(x.toInt - lo).toNat]? = some offs.toList[(x.toInt - lo).toNat] := List.getElem?_eq_getElem hn
      generalize offs.toList[(x.toInt - lo).toNat] = off at ho
      have h3 := List.all_eq_true.mp k3 off (List.mem_of_getElem? ho)
      simp only [decide_eq_true_eq] at h3
      refine lv_tableIn (tgt := ((pc : Int) + off).toNat) C.1 C.2.1 hd (by omega) (by omega) (off := off) (by rw [← Array.getElem?_toList]; exact ho) (by omega) ?_
      refine ev_in_ok (b := (lo + ((x.toInt - lo).toNat : Int), lo + ((x.toInt - lo).toNat : Int))) hat hx ⟨by dsimp only; omega, by dsimp only; omega⟩ tx (fun st hst => k st (List.mem_append_right _ (ev_tsI_mem ho hst)))
/-- pairs: one state for each number that may come, one for the rest -/
def ev_lki (pc : Nat) (q : Int × Int) (tq : ev_t) (L : List ev_l) (S : List ev_s) (FS : List ev_f) (RS : List ev_r) : List (Int × Int) → List ev_S
  | [] => []
  | u :: us => ev_side .eq q (u.1, u.1) tq ev_nt ((pc : Int) + u.2).toNat L S FS RS ++ ev_lki pc q tq L S FS RS us
def ev_lkd (q : Int × Int) (ps : List (Int × Int)) : Bool := decide (q.1 = q.2) && ps.any (fun u => decide (u.1 = q.1))
def ev_lsw (pc : Nat) (d : Int) (ps : List (Int × Int)) (q : Int × Int) (tq : ev_t) (L : List ev_l) (S : List ev_s) (FS : List ev_f) (RS : List ev_r) : List ev_S := match ev_lkd q ps with
  | true => ev_lki pc q tq L S FS RS ps
  | false => (((pc : Int) + d).toNat, L, S, FS, RS) :: ev_lki pc q tq L S FS RS ps
def ev_lkk (pc : Nat) (d : Int) (ps : Array (Int × Int)) : Bool := (ps.toList.zip (ps.toList.drop 1)).all (fun (a, next) => a.1 < next.1) && (decide (0 ≤ (pc : Int) + d) && ps.toList.all (fun u => decide (0 ≤ (pc : Int) + u.2)))
theorem ev_lko (d x : Int) : ∀ ps : List (Int × Int), (Op.lookupswitch.offset ps d x = d ∧ ∀ u ∈ ps, u.1 ≠ x) ∨ ∃ u ∈ ps, u.1 = x ∧ Op.lookupswitch.offset ps d x = u.2
  | [] => Or.inl ⟨rfl, fun u hu => absurd hu List.not_mem_nil⟩
  | (a, o1) :: us => by
    rw [Op.lookupswitch.offset_cons]
    by_cases h : a = x
    · rw [if_pos h]
      exact Or.inr ⟨(a, o1), List.mem_cons_self, h, rfl⟩
    · rw [if_neg h]
      rcases ev_lko d x us with ⟨h1, h2⟩ | ⟨u, h1, h2, h3⟩
      · refine Or.inl ⟨h1, fun u hu => ?_⟩
        rcases List.mem_cons.mp hu with rfl | hu
        · exact h
        · exact h2 u hu
      · exact Or.inr ⟨u, List.mem_cons_of_mem _ h1, h2, h3⟩
theorem ev_lki_mem {q : Int × Int} {tq : ev_t} {st : ev_S} {u : Int × Int} : ∀ {us : List (Int × Int)}, u ∈ us → st ∈ ev_side .eq q (u.1, u.1) tq ev_nt ((pc : Int) + u.2).toNat L S FS RS → st ∈ ev_lki pc q tq L S FS RS us
  | [], h, _ => absurd h List.not_mem_nil
  | w :: us, h, hs => by
    rcases List.mem_cons.mp h with rfl | h
    · exact List.mem_append_left _ hs
    · exact List.mem_append_right _ (ev_lki_mem h hs)
theorem fs_lsw (C : ev_cx p s m args meth c cc nL o D tys aK aV b0) {d : Int} {ps : Array (Int × Int)} {len : Nat} {q : Int × Int} {tq : ev_t} (hk : ev_lkk pc d ps = true) (hd : decode cc pc = .ok (.lookupswitch d ps, len))
    (k : ∀ st ∈ ev_lsw pc d ps.toList q tq L S FS RS, ev_go p l e R s m args below meth c Q D tys T I b0 nL ad w0 Wr γ st) : ev_go p l e R s m args below meth c Q D tys T I b0 nL ad w0 Wr γ (pc, L, (.inl q, tq) :: S, FS, RS) := by
  intro H locs ls stk ws h
  dsimp only at h
  obtain ⟨h0, hl, hs, hr⟩ := h
  obtain ⟨x0, zs, rfl, ⟨x, rfl, hx⟩, tx, hs2⟩ := ev_stk_cons hs
  unfold ev_lkk at hk
  rw [Bool.and_eq_true, Bool.and_eq_true] at hk
  obtain ⟨k1, k2, k3⟩ := hk
  simp only [decide_eq_true_eq] at k2
  have hat : ev_at s D tys T I b0 nL ad w0 Wr γ L S FS RS H locs ls zs ws := ⟨h0, hl, hs2, hr⟩
  rcases ev_lko d x.toInt ps.toList with ⟨h1, h2⟩ | ⟨u, h1, h2, h3⟩
  · refine lv_lookup (tgt := ((pc : Int) + d).toNat) C.1 C.2.1 hd k1 h1 (by omega) ?_
    refine k (((pc : Int) + d).toNat, L, S, FS, RS) ?_ H locs ls zs ws hat
    unfold ev_lsw
    split
    · rename_i hb
      unfold ev_lkd at hb
      rw [Bool.and_eq_true] at hb
      obtain ⟨w, g1, g2⟩ := List.any_eq_true.mp hb.2
      have g3 := hb.1
      simp only [decide_eq_true_eq] at g2 g3
      exact absurd (by obtain ⟨a1, a2⟩ := hx; omega) (h2 w g1)
    · exact List.mem_cons_self
  · have h4 := List.all_eq_true.mp k3 u h1
    simp only [decide_eq_true_eq] at h4
    refine lv_lookup (tgt := ((pc : Int) + u.2).toNat) C.1 C.2.1 hd k1 h3 (by omega) ?_
    refine ev_in_ok (b := (u.1, u.1)) hat hx ⟨by dsimp only; omega, by dsimp only; omega⟩ tx (fun st hst => k st ?_)
    unfold ev_lsw
    split
    · exact ev_lki_mem h1 hst
    · exact List.mem_cons_of_mem _ (ev_lki_mem h1 hst)
theorem en_mt_16 : en_ms[16]? = some (Lib.Math.min.name, Lib.Math.min.code, 2, some .int) := rfl
theorem en_mt_30 : en_ms[30]? = some (Lib.Math.max.name, Lib.Math.max.code, 2, some .int) := rfl
theorem en_codeW {mi : Nat} {r : MethodName × ByteArray × Nat × Option FieldType} (hr : en_ms[mi]? = some r) : Cond.code r.1 r.2.1 r.2.2.1 r.2.2.2 ∈ en_ws := (en_codeG hr _ List.mem_cons_self).1
theorem fs_min (C : ev_cx p s m args meth c cc nL o D tys aK aV b0) {i : Nat} {q r : Int × Int} {tq tr : ev_t} (hf : en_find o i en_cl = some (1, 16, 2)) (hfr : 1 ≤ R.frames) (hlo : S.length + 13 ≤ R.locals) (hd : decode cc pc = .ok (.invokestatic i, 3))
    (k : ev_go p l e R s m args below meth c Q D tys T I b0 nL ad w0 Wr γ (pc + 3, L, (.inl (ev_min q.1 r.1, ev_min q.2 r.2), ev_nt) :: S, FS, RS)) : ev_go p l e R s m args below meth c Q D tys T I b0 nL ad w0 Wr γ (pc, L, (.inl r, tr) :: (.inl q, tq) :: S, FS, RS) := by
  intro H locs ls stk ws h
  dsimp only at h
  obtain ⟨h0, hl, hs, hr⟩ := h
  obtain ⟨y0, ys, rfl, ⟨y, rfl, hy⟩, -, hs1⟩ := ev_stk_cons hs
  obtain ⟨x0, zs, rfl, ⟨x, rfl, hx⟩, -, hs2⟩ := ev_stk_cons hs1
  have hts := C.2.2.2.2.1
  have hww := en_clW hf en_mt_16
  refine va_mmin C.1 C.2.1 (C.2.2.1.trans h0.1.symm) C.2.2.2.1 (hts _ (en_ws_in (hww (.methodLink (en_nm o) i Lib.Math.min.name) (by simp)) rfl)) (hts _ (en_ws_in (hww (.static Lib.Math.min.name) (by simp)) rfl)) (hts _ (en_ws_in (hww (.initialized Lib.Math.min.name.cls) (by simp)) rfl)) (hts _ (en_codeW en_mt_16)) hfr (by rw [ev_stk_len hs2]; exact hlo) (Nat.zero_le _) (Nat.zero_le _) hd ?_
  refine k H locs ls _ ws ⟨h0, hl, ⟨⟨⟨_, rfl, ?_⟩, ev_tag0⟩, hs2⟩, hr⟩
  obtain ⟨a1, a2⟩ := hx
  obtain ⟨a3, a4⟩ := hy
  unfold ev_min
  by_cases hlt : y < x
  · rw [if_pos hlt]
    rw [fa_lt] at hlt
    constructor <;> dsimp only <;> split <;> omega
  · rw [if_neg hlt]
    rw [fa_lt] at hlt
    constructor <;> dsimp only <;> split <;> omega
theorem fs_max (C : ev_cx p s m args meth c cc nL o D tys aK aV b0) {i : Nat} {q r : Int × Int} {tq tr : ev_t} (hf : en_find o i en_cl = some (1, 30, 2)) (hfr : 1 ≤ R.frames) (hlo : S.length + 13 ≤ R.locals) (hd : decode cc pc = .ok (.invokestatic i, 3))
    (k : ev_go p l e R s m args below meth c Q D tys T I b0 nL ad w0 Wr γ (pc + 3, L, (.inl (ev_max q.1 r.1, ev_max q.2 r.2), ev_nt) :: S, FS, RS)) : ev_go p l e R s m args below meth c Q D tys T I b0 nL ad w0 Wr γ (pc, L, (.inl r, tr) :: (.inl q, tq) :: S, FS, RS) := by
  intro H locs ls stk ws h
  dsimp only at h
  obtain ⟨h0, hl, hs, hr⟩ := h
  obtain ⟨y0, ys, rfl, ⟨y, rfl, hy⟩, -, hs1⟩ := ev_stk_cons hs
  obtain ⟨x0, zs, rfl, ⟨x, rfl, hx⟩, -, hs2⟩ := ev_stk_cons hs1
  have hts := C.2.2.2.2.1
  have hww := en_clW hf en_mt_30
  refine va_mmax C.1 C.2.1 (C.2.2.1.trans h0.1.symm) C.2.2.2.1 (hts _ (en_ws_in (hww (.methodLink (en_nm o) i Lib.Math.max.name) (by simp)) rfl)) (hts _ (en_ws_in (hww (.static Lib.Math.max.name) (by simp)) rfl)) (hts _ (en_ws_in (hww (.initialized Lib.Math.max.name.cls) (by simp)) rfl)) (hts _ (en_codeW en_mt_30)) hfr (by rw [ev_stk_len hs2]; exact hlo) (Nat.zero_le _) (Nat.zero_le _) hd ?_
  refine k H locs ls _ ws ⟨h0, hl, ⟨⟨⟨_, rfl, ?_⟩, ev_tag0⟩, hs2⟩, hr⟩
  obtain ⟨a1, a2⟩ := hx
  obtain ⟨a3, a4⟩ := hy
  unfold ev_max
  by_cases hlt : x < y
  · rw [if_pos hlt]
    rw [fa_lt] at hlt
    constructor <;> dsimp only <;> split <;> omega
  · rw [if_neg hlt]
    rw [fa_lt] at hlt
    constructor <;> dsimp only <;> split <;> omega
end EVM
def ev_pick (T : en_T) (Wr : List (Nat × Nat)) (K : List ek) (mi : Nat) (as : List en_V) (FS : List ev_f) : Option ek := K.find? (fun κ => κ.1 == mi && (en_all2 en_le as κ.2.1 && ((ek_pre κ).all (ev_has T FS) && (ek_wr κ).all (fun q => Wr.contains q))))
theorem ev_pick_ok {T : en_T} {Wr : List (Nat × Nat)} {K : List ek} {mi : Nat} {as : List en_V} {FS : List ev_f} {κ : ek} (h : ev_pick T Wr K mi as FS = some κ) : κ ∈ K ∧ κ.1 = mi ∧ en_all2 en_le as κ.2.1 = true ∧ (ek_pre κ).all (ev_has T FS) = true ∧ ∀ q ∈ ek_wr κ, q ∈ Wr := by
  unfold ev_pick at h
  have h1 := List.find?_some h
  simp only [Bool.and_eq_true, beq_iff_eq] at h1
  exact ⟨List.mem_of_find?_eq_some h, h1.1, h1.2.1, h1.2.2.1, fun q hq => List.contains_iff_mem.mp (List.all_eq_true.mp h1.2.2.2 q hq)⟩
def ev_kn (k : Nat) (v : Int32) (len pc : Nat) (L : List ev_l) (S : List ev_s) (FS : List ev_f) (RS : List ev_r) : Option (List ev_S) := en_g (len == k) (some [(pc + k, L, (.inl (v.toInt, v.toInt), ev_nt) :: S, FS, RS)])
def ev_ld (k i len pc : Nat) (L : List ev_l) (S : List ev_s) (FS : List ev_f) (RS : List ev_r) : Option (List ev_S) := match L[i]? with
  | some (some (.inl q, _)) => en_g (len == k) (some [(pc + k, L, (.inl (ev_lq L i q RS), (1, i, 0, 0)) :: S, FS, RS)])
  | _ => none
def ev_la (k i len pc : Nat) (L : List ev_l) (S : List ev_s) (FS : List ev_f) (RS : List ev_r) : Option (List ev_S) := match L[i]? with
  | some (some (.inr (j + 2), _)) => en_g (len == k) (some [(pc + k, L, (.inr (j + 2), ev_nt) :: S, FS, RS)])
  | _ => none
def ev_st (k i len pc : Nat) (L : List ev_l) (S : List ev_s) (FS : List ev_f) (RS : List ev_r) : Option (List ev_S) := match S with
  | (.inl q, t) :: S' => en_g (len == k && decide (i < L.length)) (some [(pc + k, L.set i (some (.inl q, ev_sg L i t)), S'.map (ev_kt i), ev_kf i FS, ev_sR RS i t)])
  | _ => none
def ev_sa (k i len pc : Nat) (L : List ev_l) (S : List ev_s) (FS : List ev_f) (RS : List ev_r) : Option (List ev_S) := match S with
  | (.inr (j + 2), t) :: S' => en_g (len == k && decide (i < L.length)) (some [(pc + k, L.set i (some (.inr (j + 2), ev_sg L i t)), S'.map (ev_kt i), ev_kf i FS, ev_sR RS i t)])
  | _ => none
def ev_bn (f : Int × Int → Int × Int → Int × Int) (g : Int × Int → Int × Int → ev_t → ev_t → ev_t) (b : Int × Int → Bool) (len pc : Nat) (L : List ev_l) (S : List ev_s) (FS : List ev_f) (RS : List ev_r) : Option (List ev_S) := match S with
  | (.inl r, tr) :: (.inl q, tq) :: S' => en_g (len == 1 && b r) (some [(pc + 1, L, (.inl (f q r), g q r tq tr) :: S', FS, RS)])
  | _ => none
def ev_al (T : en_T) (i0 i1 len pc : Nat) (L : List ev_l) (S : List ev_s) (FS : List ev_f) (RS : List ev_r) : Option (List ev_S) := match S with
  | (.inl q, tq) :: (.inr (j + 2), _) :: S' => match T[j]? with
    | some (.inl t) => en_g ((t.1 == i0 || t.1 == i1) && (len == 1 && (decide (0 ≤ q.1) && decide (q.2 < t.2.1)))) (some [(pc + 1, L, ev_rq FS j tq t.2.2 :: S', FS, RS)])
    | _ => none
  | _ => none
def ev_as (T : en_T) (sp Wr : List (Nat × Nat)) (b : Bool) (len pc : Nat) (L : List ev_l) (S : List ev_s) (FS : List ev_f) (RS : List ev_r) : Option (List ev_S) := match S with
  | (.inl v, _) :: (.inl q, tq) :: (.inr (j + 2), _) :: S' => match T[j]? with
    | some (.inl t) => en_g ((match b with
        | true => t.1 == 0
        | false => (t.1 == 2 && (decide (-128 ≤ v.1) && decide (v.2 ≤ 127))) || (t.1 == 1 && (decide (0 ≤ v.1) && decide (v.2 ≤ 1)))) && (len == 1 && (decide (0 ≤ q.1) && (decide (q.2 < t.2.1) && (decide (t.2.2.1 ≤ v.1) && (decide (v.2 ≤ t.2.2.2) && (Wr.contains (j, 999) && !sp.contains (j, 999)))))))) (some [(pc + 1, L, S'.map (ev_hs [(j, 999)]), ev_sf FS j tq v, RS)])
    | _ => none
  | _ => none
def ev_room (rm : Nat × Nat) (κ : ek) (ml n : Nat) : Bool := decide (ek_fr κ + 1 ≤ rm.1) && (decide (8 + (ml + 11) + ek_lo κ ≤ rm.2) && decide (n ≤ 8))
def ev_cV (o : Nat) (T : en_T) (Wr : List (Nat × Nat)) (K : List ek) (rm : Nat × Nat) (i len pc : Nat) (L : List ev_l) (S : List ev_s) (FS : List ev_f) (RS : List ev_r) : Option (List ev_S) := match en_find o i en_cl with
  | some (kd, mi, n) => match S.drop n with
    | (.inr (j + 2), _) :: S' => match T[j]? with
      | some (.inr q) => match en_ms[mi]? with
        | some r => match en_mo[mi]? with
          | some ci => match vwCl[ci]? with
            | some _ => match ev_pick T Wr K mi (.inr (j + 2) :: ((S.take n).map (fun a => a.1)).reverse) FS with
              | some κ => en_g (kd == 0 && (len == 3 && (q.1 == ci && ((S.take n).length == n && ev_room rm κ r.2.2.1 S'.length)))) (some (ek_next κ (pc + 3) L S' FS RS))
              | none => none
            | none => none
          | none => none
        | none => none
      | _ => none
    | _ => none
  | none => none
def ev_cS (o : Nat) (T : en_T) (sp Wr : List (Nat × Nat)) (K : List ek) (rm : Nat × Nat) (i len pc : Nat) (L : List ev_l) (S : List ev_s) (FS : List ev_f) (RS : List ev_r) : Option (List ev_S) := match en_find o i en_cl with
  | some (kd, mi, n) => match mi == 16 || mi == 30 with
    | true => match S with
      | (.inl r, _) :: (.inl q, _) :: S' => en_g (kd == 1 && (n == 2 && (len == 3 && (decide (1 ≤ rm.1) && decide (S'.length + 13 ≤ rm.2))))) (some [(pc + 3, L, (.inl (match mi == 16 with
          | true => (ev_min q.1 r.1, ev_min q.2 r.2)
          | false => (ev_max q.1 r.1, ev_max q.2 r.2)), ev_nt) :: S', FS, RS)])
      | _ => none
    | false => match en_ms[mi]? with
      | some r => match ev_pick T Wr K mi ((S.take n).map (fun a => a.1)).reverse FS with
        | some κ => en_g ((kd == 1 || kd == 2) && (len == 3 && ((S.take n).length == n && ev_room rm κ r.2.2.1 (S.drop n).length))) (some (ek_next κ (pc + 3) L (S.drop n) FS RS))
        | none => none
      | none => none
  | none => match S with
    | (.inl n, _) :: (.inl d, _) :: (.inr (j1 + 2), _) :: (.inl a, _) :: (.inr (j0 + 2), _) :: S' => match T[j0]? with
      | some (.inl t0) => match T[j1]? with
        | some (.inl t1) => en_g (en_ac.contains (o, i) && (len == 3 && (decide (n.1 = n.2) && (decide (0 ≤ n.1) && (decide (d = (0, 0)) && (decide (a = (0, 0)) && (t0.1 == 0 && (t1.1 == 0 && (decide (n.1.toNat ≤ t0.2.1) && (decide (n.1.toNat ≤ t1.2.1) && (decide (t1.2.2.1 ≤ t0.2.2.1) && (decide (t0.2.2.2 ≤ t1.2.2.2) && (Wr.contains (j1, 999) && (!sp.contains (j1, 999) && (decide (1 ≤ rm.1) && decide (S'.length + (nativeFrameWords "java/lang/System" "arraycopy" 5 + 11) ≤ rm.2)))))))))))))))) (some [(pc + 3, L, S'.map (ev_hs [(j1, 999)]), ev_hf [(j1, 999)] FS, RS)])
        | _ => none
      | _ => none
    | _ => none
def ev_op (o : Nat) (T : en_T) (sp Wr : List (Nat × Nat)) (K : List ek) (rm : Nat × Nat) (op : Instr) (len pc : Nat) (L : List ev_l) (S : List ev_s) (FS : List ev_f) (RS : List ev_r) : Option (List ev_S) := match op with
  | .iconst n => ev_kn 1 (Int32.ofInt n) len pc L S FS RS
  | .bipush n => ev_kn 2 (Int8.ofInt n).toInt32 len pc L S FS RS
  | .sipush n => ev_kn 3 (Int16.ofInt n).toInt32 len pc L S FS RS
  | .ldc i => match en_find o i en_kc with
    | some v => ev_kn 2 (Int32.ofInt v) len pc L S FS RS
    | none => none
  | .ldc_w i => match en_find o i en_kc with
    | some v => ev_kn 3 (Int32.ofInt v) len pc L S FS RS
    | none => none
  | .iload_n k => ev_ld 1 k.val len pc L S FS RS
  | .iload i => ev_ld 2 i len pc L S FS RS
  | .aload_n k => ev_la 1 k.val len pc L S FS RS
  | .aload i => ev_la 2 i len pc L S FS RS
  | .istore_n k => ev_st 1 k.val len pc L S FS RS
  | .istore i => ev_st 2 i len pc L S FS RS
  | .astore_n k => ev_sa 1 k.val len pc L S FS RS
  | .astore i => ev_sa 2 i len pc L S FS RS
  | .iinc i n => match L[i]? with
    | some (some (.inl q, g)) => match ev_ex (ev_lq L i q RS) (Int32.ofInt n).toInt with
      | true => en_g (len == 3) (some [(pc + 3, L.set i (some (.inl (en_add (ev_lq L i q RS) ((Int32.ofInt n).toInt, (Int32.ofInt n).toInt)), ev_gs g (Int32.ofInt n).toInt)), S.map (ev_kt i), ev_kf i FS, ev_sr i (Int32.ofInt n).toInt RS)])
      | false => en_g (len == 3) (some [(pc + 3, L.set i (some (.inl en_full, none)), S.map (ev_kt i), ev_kf i FS, ev_kr i RS)])
    | _ => none
  | .iadd => ev_bn en_add ev_ta (fun _ => true) len pc L S FS RS
  | .isub => ev_bn ev_sub (fun q r tq _ => ev_ts q r tq) (fun _ => true) len pc L S FS RS
  | .imul => ev_bn en_mul (fun _ _ _ _ => ev_nt) (fun _ => true) len pc L S FS RS
  | .iand => ev_bn en_and (fun _ _ _ _ => ev_nt) (fun _ => true) len pc L S FS RS
  | .ior => ev_bn (fun _ _ => en_full) (fun _ _ _ _ => ev_nt) (fun _ => true) len pc L S FS RS
  | .ixor => ev_bn (fun _ _ => en_full) (fun _ _ _ _ => ev_nt) (fun _ => true) len pc L S FS RS
  | .ishl => ev_bn (fun _ _ => en_full) (fun _ _ _ _ => ev_nt) (fun _ => true) len pc L S FS RS
  | .ishr => ev_bn (fun _ _ => en_full) (fun _ _ _ _ => ev_nt) (fun _ => true) len pc L S FS RS
  | .iushr => ev_bn (fun _ _ => en_full) (fun _ _ _ _ => ev_nt) (fun _ => true) len pc L S FS RS
  | .idiv => ev_bn ev_idiv (fun _ _ _ _ => ev_nt) ev_nz len pc L S FS RS
  | .irem => ev_bn ev_irem (fun _ _ _ _ => ev_nt) ev_nz len pc L S FS RS
  | .i2b => match S with
    | (.inl _, _) :: S' => en_g (len == 1) (some [(pc + 1, L, (.inl (-128, 127), ev_nt) :: S', FS, RS)])
    | _ => none
  | .dup => match S with
    | a :: S' => en_g (len == 1) (some [(pc + 1, L, a :: a :: S', FS, RS)])
    | _ => none
  | .dup2 => match S with
    | a :: b :: S' => en_g (len == 1) (some [(pc + 1, L, a :: b :: a :: b :: S', FS, RS)])
    | _ => none
  | .pop => match S with
    | _ :: S' => en_g (len == 1) (some [(pc + 1, L, S', FS, RS)])
    | _ => none
  | .goto off => en_g (len == 3 && decide (0 ≤ (pc : Int) + off)) (some [(((pc : Int) + off).toNat, L, S, FS, RS)])
  | .if_icmp cd off => match S with
    | (.inl r, tr) :: (.inl q, tq) :: S' => en_g (len == 3 && decide (0 ≤ (pc : Int) + off)) (some (ev_sides cd q r tq tr ((pc : Int) + off).toNat L S' FS RS ++ ev_sides (ev_neg cd) q r tq tr (pc + 3) L S' FS RS))
    | _ => none
  | .ifCond cd off => match S with
    | (.inl q, tq) :: S' => en_g (len == 3 && decide (0 ≤ (pc : Int) + off)) (some (ev_sides cd q (0, 0) tq ev_nt ((pc : Int) + off).toNat L S' FS RS ++ ev_sides (ev_neg cd) q (0, 0) tq ev_nt (pc + 3) L S' FS RS))
    | _ => none
  | .tableswitch d lo hi offs => match S with
    | (.inl q, tq) :: S' => en_g (ev_tsk pc d lo hi offs) (some (ev_tsw pc d lo hi offs q tq L S' FS RS))
    | _ => none
  | .lookupswitch d ps => match S with
    | (.inl q, tq) :: S' => en_g (ev_lkk pc d ps) (some (ev_lsw pc d ps.toList q tq L S' FS RS))
    | _ => none
  | .arraylength => match S with
    | (.inr (j + 2), _) :: S' => match T[j]? with
      | some (.inl t) => en_g (len == 1 && (!(t.1 == 3) && decide (t.2.1 < 2147483648))) (some [(pc + 1, L, (.inl ((t.2.1 : Int), (t.2.1 : Int)), ev_nt) :: S', FS, RS)])
      | _ => none
    | _ => none
  | .iaload => ev_al T 0 0 len pc L S FS RS
  | .baload => ev_al T 1 2 len pc L S FS RS
  | .aaload => match S with
    | (.inl q, _) :: (.inr (j + 2), _) :: S' => match T[j]? with
      | some (.inl t) => en_g (len == 1 && (t.1 == 3 && (decide (q.1 = q.2) && (decide (0 ≤ q.1) && decide (q.1.toNat < t.2.1))))) (some [(pc + 1, L, (.inr (t.2.2.1.toNat + q.1.toNat + 2), ev_nt) :: S', FS, RS)])
      | _ => none
    | _ => none
  | .iastore => ev_as T sp Wr true len pc L S FS RS
  | .bastore => ev_as T sp Wr false len pc L S FS RS
  | .getfield i => match en_find o i en_fl with
    | some (ci, f) => match S with
      | (.inr (j + 2), _) :: S' => match T[j]? with
        | some (.inr q) => match vwCl[ci]? with
          | some r => match q.2[f]? with
            | some (.inl b) => en_g (len == 3 && (q.1 == ci && decide (f < r.2.2))) (some [(pc + 3, L, (.inl (ev_fq FS (2, j, f) b), (2, j, f, 0)) :: S', FS, RS)])
            | some (.inr n) => en_g (len == 3 && (q.1 == ci && decide (f < r.2.2))) (some [(pc + 3, L, (.inr n, ev_nt) :: S', FS, RS)])
            | none => none
          | none => none
        | _ => none
      | _ => none
    | none => none
  | .putfield i => match en_find o i en_fl with
    | some (ci, f) => match S with
      | (.inl v, tv) :: (.inr (j + 2), _) :: S' => match T[j]? with
        | some (.inr q) => match vwCl[ci]? with
          | some r => match q.2[f]? with
            | some (.inl b) => en_g (len == 3 && (q.1 == ci && (decide (f < r.2.2) && (en_le (.inl v) (.inl b) && (en_put (en_tyX ci f) (.inl v) && (!(r.2.1 f).2.2.2 && (Wr.contains (j, f) && !sp.contains (j, f)))))))) (some [(pc + 3, L, S'.map (ev_hs [(j, f)]), ((2, j, f), v, ev_pg FS j f tv) :: ev_hf [(j, f)] FS, RS)])
            | _ => none
          | none => none
        | _ => none
      | _ => none
    | none => none
  | .invokevirtual i => ev_cV o T Wr K rm i len pc L S FS RS
  | .invokestatic i => ev_cS o T sp Wr K rm i len pc L S FS RS
  | _ => none
theorem ev_ct {j f : Nat} {W1 : List (Nat × Nat)} (h : W1.contains (j, f) = true) : (j, f) ∈ W1 := List.contains_iff_mem.mp h
theorem ev_cf {j f : Nat} {W1 : List (Nat × Nat)} (h : W1.contains (j, f) = false) : (j, f) ∉ W1 := fun hm => by rw [List.contains_iff_mem.mpr hm] at h; cases h
section EVO0
variable {p : Program} {l : Launch} {e : Env} {R : Room} {s : State} {m : MethodId} {args : Array Value} {below : List Frame} {meth : Method} {c : Code} {Q : State → Prop} {cc : ByteArray} {D : va_G} {tys : List (ClassId × FieldType)} {T : en_T} {I : va_W → Prop} {aK aV b0 nL o : Nat} {ad : Nat → Nat} {w0 : va_W} {Wr : List (Nat × Nat)} {γ : Nat → Int}
variable {pc : Nat} {L : List ev_l} {S : List ev_s} {FS : List ev_f} {RS : List ev_r}
theorem fs_goI {pc' i : Nat} {a : en_V} {t : ev_t} (hi : i < L.length) (row : ∀ (H : Heap) (locs : List Loc) (ls : Array Slot) (rest : List Value) (x : Value), en_v T.length ad a x → ls.size = nL → lv_wf ls → L.length = nL → (∀ ls' : Array Slot, lv_has ls' nL ((i, x) :: (en_lv ls).filter (fun q => !(q.1 == i) && !(q.1 + 1 == i && q.2.category == 2))) → W p l e R s m args below meth c H locs 0 0 Q (F0 m pc' ls' rest)) → W p l e R s m args below meth c H locs 0 0 Q (F0 m pc ls (x :: rest)))
    (k : ev_go p l e R s m args below meth c Q D tys T I b0 nL ad w0 Wr γ (pc', L.set i (some (a, ev_sg L i t)), S.map (ev_kt i), ev_kf i FS, ev_sR RS i t)) : ev_go p l e R s m args below meth c Q D tys T I b0 nL ad w0 Wr γ (pc, L, (a, t) :: S, FS, RS) := by
  intro H locs ls stk ws h
  have hn : L.length = nL := h.1.2.2
  exact fs_store hi (fun H locs ls rest x hx z1 z2 k => row H locs ls rest x hx z1 z2 hn k) k H locs ls stk ws h
theorem fs_iincF (C : ev_cx p s m args meth c cc nL o D tys aK aV b0) {i : Nat} {n : Int} {q : Int × Int} {g : Option (Nat × Int)} (hL : L[i]? = some (some (.inl q, g))) (hd : decode cc pc = .ok (.iinc i n, 3))
    (k : ev_go p l e R s m args below meth c Q D tys T I b0 nL ad w0 Wr γ (pc + 3, L.set i (some (.inl en_full, none)), S.map (ev_kt i), ev_kf i FS, ev_kr i RS)) : ev_go p l e R s m args below meth c Q D tys T I b0 nL ad w0 Wr γ (pc, L, S, FS, RS) := by
  intro H locs ls stk ws h
  dsimp only at h
  obtain ⟨⟨z1, z2, z3⟩, hl, hs, hf, hR, hr⟩ := h
  obtain ⟨x, h1, ⟨v, rfl, hv⟩, hg⟩ := hl i _ hL
  obtain ⟨j, hj⟩ := List.getElem?_of_mem (en_lv_mem.mpr h1)
  have hi : i < L.length := (List.getElem?_eq_some_iff.mp hL).1
  refine lv_iinc C.1 C.2.1 hd (en_lv_has z1 z2) hj rfl (by omega) rfl (fun ls' h' => ?_)
  obtain ⟨k1, k2⟩ := ev_keep h'
  exact k H locs ls' stk ws ⟨⟨h'.1, h'.2.1, by dsimp only; rw [List.length_set]; exact z3⟩, ev_lo_set k2 k1 ⟨_, rfl, en_full_in _⟩ trivial hl, ev_kt_ok k2 hs, ev_kf_ok k2 hf, ev_kr_ok k2 hR, hr⟩
end EVO0
section EVO
variable {p : Program} {l : Launch} {e : Env} {R : Room} {s : State} {m : MethodId} {args : Array Value} {below : List Frame} {meth : Method} {c : Code} {Q : State → Prop} {cc : ByteArray} {D : va_G} {tys : List (ClassId × FieldType)} {T : en_T} {I : va_W → Prop} {sp : List (Nat × Nat)} {aK aV b0 nL o : Nat} {ad : Nat → Nat} {w0 : va_W} {Wr : List (Nat × Nat)} {γ : Nat → Int}
variable {pc len : Nat} {L : List ev_l} {S : List ev_s} {FS : List ev_f} {RS : List ev_r} {K : List ek} {rm : Nat × Nat} {ss : List ev_S}
theorem ev_one {st : ev_S} {b : Bool} (h : en_g b (some [st]) = some ss) (k : ∀ st ∈ ss, ev_go p l e R s m args below meth c Q D tys T I b0 nL ad w0 Wr γ st) : b = true ∧ ev_go p l e R s m args below meth c Q D tys T I b0 nL ad w0 Wr γ st := by
  obtain ⟨h1, h2⟩ := en_g_some h
  cases h2
  exact ⟨h1, k _ List.mem_cons_self⟩
theorem ev_many {sts : List ev_S} {b : Bool} (h : en_g b (some sts) = some ss) (k : ∀ st ∈ ss, ev_go p l e R s m args below meth c Q D tys T I b0 nL ad w0 Wr γ st) : b = true ∧ ∀ st ∈ sts, ev_go p l e R s m args below meth c Q D tys T I b0 nL ad w0 Wr γ st := by
  obtain ⟨h1, h2⟩ := en_g_some h
  cases h2
  exact ⟨h1, k⟩
theorem ow_kn {j : Nat} {v : Int32} (h : ev_kn j v len pc L S FS RS = some ss) (k : ∀ st ∈ ss, ev_go p l e R s m args below meth c Q D tys T I b0 nL ad w0 Wr γ st) : len = j ∧ ev_go p l e R s m args below meth c Q D tys T I b0 nL ad w0 Wr γ (pc + j, L, (.inl (v.toInt, v.toInt), ev_nt) :: S, FS, RS) := by
  obtain ⟨h1, h2⟩ := ev_one h k
  exact ⟨by simpa using h1, h2⟩
theorem ow_ld {j i : Nat} (h : ev_ld j i len pc L S FS RS = some ss) (k : ∀ st ∈ ss, ev_go p l e R s m args below meth c Q D tys T I b0 nL ad w0 Wr γ st) : len = j ∧ ∃ q g, L[i]? = some (some (.inl q, g)) ∧ ev_go p l e R s m args below meth c Q D tys T I b0 nL ad w0 Wr γ (pc + j, L, (.inl (ev_lq L i q RS), (1, i, 0, 0)) :: S, FS, RS) := by
  unfold ev_ld at h
  split at h
  · rename_i q g hq
    obtain ⟨h1, h2⟩ := ev_one h k
    exact ⟨by simpa using h1, q, g, hq, h2⟩
  · cases h
theorem ow_la {j i : Nat} (h : ev_la j i len pc L S FS RS = some ss) (k : ∀ st ∈ ss, ev_go p l e R s m args below meth c Q D tys T I b0 nL ad w0 Wr γ st) : len = j ∧ ∃ q g, L[i]? = some (some (.inr (q + 2), g)) ∧ ev_go p l e R s m args below meth c Q D tys T I b0 nL ad w0 Wr γ (pc + j, L, (.inr (q + 2), ev_nt) :: S, FS, RS) := by
  unfold ev_la at h
  split at h
  · rename_i q g hq
    obtain ⟨h1, h2⟩ := ev_one h k
    exact ⟨by simpa using h1, q, g, hq, h2⟩
  · cases h
theorem ow_st {j i : Nat} (h : ev_st j i len pc L S FS RS = some ss) (k : ∀ st ∈ ss, ev_go p l e R s m args below meth c Q D tys T I b0 nL ad w0 Wr γ st) : len = j ∧ i < L.length ∧ ∃ q t S', S = (.inl q, t) :: S' ∧ ev_go p l e R s m args below meth c Q D tys T I b0 nL ad w0 Wr γ (pc + j, L.set i (some (.inl q, ev_sg L i t)), S'.map (ev_kt i), ev_kf i FS, ev_sR RS i t) := by
  unfold ev_st at h
  split at h
  · rename_i q t S'
    obtain ⟨h1, h2⟩ := ev_one h k
    simp only [Bool.and_eq_true, beq_iff_eq, decide_eq_true_eq] at h1
    exact ⟨h1.1, h1.2, q, t, S', rfl, h2⟩
  · cases h
theorem ow_sa {j i : Nat} (h : ev_sa j i len pc L S FS RS = some ss) (k : ∀ st ∈ ss, ev_go p l e R s m args below meth c Q D tys T I b0 nL ad w0 Wr γ st) : len = j ∧ i < L.length ∧ ∃ q t S', S = (.inr (q + 2), t) :: S' ∧ ev_go p l e R s m args below meth c Q D tys T I b0 nL ad w0 Wr γ (pc + j, L.set i (some (.inr (q + 2), ev_sg L i t)), S'.map (ev_kt i), ev_kf i FS, ev_sR RS i t) := by
  unfold ev_sa at h
  split at h
  · rename_i q t S'
    obtain ⟨h1, h2⟩ := ev_one h k
    simp only [Bool.and_eq_true, beq_iff_eq, decide_eq_true_eq] at h1
    exact ⟨h1.1, h1.2, q, t, S', rfl, h2⟩
  · cases h
theorem ow_bn {f : Int × Int → Int × Int → Int × Int} {g : Int × Int → Int × Int → ev_t → ev_t → ev_t} {b : Int × Int → Bool} (h : ev_bn f g b len pc L S FS RS = some ss) (k : ∀ st ∈ ss, ev_go p l e R s m args below meth c Q D tys T I b0 nL ad w0 Wr γ st) : len = 1 ∧ ∃ r tr q tq S', S = (.inl r, tr) :: (.inl q, tq) :: S' ∧ b r = true ∧ ev_go p l e R s m args below meth c Q D tys T I b0 nL ad w0 Wr γ (pc + 1, L, (.inl (f q r), g q r tq tr) :: S', FS, RS) := by
  unfold ev_bn at h
  split at h
  · rename_i r tr q tq S'
    obtain ⟨h1, h2⟩ := ev_one h k
    simp only [Bool.and_eq_true, beq_iff_eq] at h1
    exact ⟨h1.1, r, tr, q, tq, S', rfl, h1.2, h2⟩
  · cases h
theorem ow_al {i0 i1 : Nat} (h : ev_al T i0 i1 len pc L S FS RS = some ss) (k : ∀ st ∈ ss, ev_go p l e R s m args below meth c Q D tys T I b0 nL ad w0 Wr γ st) : len = 1 ∧ ∃ q tq j tj S' t, S = (.inl q, tq) :: (.inr (j + 2), tj) :: S' ∧ T[j]? = some (.inl t) ∧ (t.1 = i0 ∨ t.1 = i1) ∧ 0 ≤ q.1 ∧ q.2 < t.2.1 ∧ ev_go p l e R s m args below meth c Q D tys T I b0 nL ad w0 Wr γ (pc + 1, L, ev_rq FS j tq t.2.2 :: S', FS, RS) := by
  unfold ev_al at h
  split at h
  · rename_i q tq j tj S'
    split at h
    · rename_i t ht
      obtain ⟨h1, h2⟩ := ev_one h k
      simp only [Bool.and_eq_true, Bool.or_eq_true, beq_iff_eq, decide_eq_true_eq] at h1
      exact ⟨h1.2.1, q, tq, j, tj, S', t, rfl, ht, h1.1, h1.2.2.1, h1.2.2.2, h2⟩
    · cases h
  · cases h
theorem ow_as {b : Bool} (h : ev_as T sp Wr b len pc L S FS RS = some ss) (k : ∀ st ∈ ss, ev_go p l e R s m args below meth c Q D tys T I b0 nL ad w0 Wr γ st) : len = 1 ∧ ∃ v tv q tq j tj S' t, S = (.inl v, tv) :: (.inl q, tq) :: (.inr (j + 2), tj) :: S' ∧ T[j]? = some (.inl t) ∧ ((b = true ∧ t.1 = 0) ∨ (b = false ∧ ((t.1 = 2 ∧ -128 ≤ v.1 ∧ v.2 ≤ 127) ∨ (t.1 = 1 ∧ 0 ≤ v.1 ∧ v.2 ≤ 1)))) ∧ (0 ≤ q.1 ∧ q.2 < t.2.1 ∧ t.2.2.1 ≤ v.1 ∧ v.2 ≤ t.2.2.2 ∧ (j, 999) ∈ Wr ∧ (j, 999) ∉ sp) ∧ ev_go p l e R s m args below meth c Q D tys T I b0 nL ad w0 Wr γ (pc + 1, L, S'.map (ev_hs [(j, 999)]), ev_sf FS j tq v, RS) := by
  unfold ev_as at h
  split at h
  · rename_i v tv q tq j tj S'
    split at h
    · rename_i t ht
      obtain ⟨h1, h2⟩ := ev_one h k
      simp only [Bool.and_eq_true, beq_iff_eq, decide_eq_true_eq, Bool.not_eq_true'] at h1
      obtain ⟨h3, h4, h5, h6, h7, h8, h9, h10⟩ := h1
      refine ⟨h4, v, tv, q, tq, j, tj, S', t, rfl, ht, ?_, ⟨h5, h6, h7, h8, ev_ct h9, ev_cf h10⟩, h2⟩
      cases b with
      | true => exact Or.inl ⟨rfl, by simpa using h3⟩
      | false =>
        simp only [Bool.and_eq_true, Bool.or_eq_true, beq_iff_eq, decide_eq_true_eq] at h3
        exact Or.inr ⟨rfl, h3⟩
    · cases h
  · cases h
theorem ow_cV (C : ev_cx p s m args meth c cc nL o D tys aK aV b0) (hK : ∀ κ ∈ K, ek_ok l T I κ) (hR : R.frames = rm.1 ∧ R.locals = rm.2) {i : Nat} (hd : decode cc pc = .ok (.invokevirtual i, len)) (h : ev_cV o T Wr K rm i len pc L S FS RS = some ss) (k : ∀ st ∈ ss, ev_go p l e R s m args below meth c Q D tys T I b0 nL ad w0 Wr γ st) : ev_go p l e R s m args below meth c Q D tys T I b0 nL ad w0 Wr γ (pc, L, S, FS, RS) := by
  unfold ev_cV at h
  split at h
  · rename_i kd mi n hf
    split at h
    · rename_i j tj S' hS'
      split at h
      · rename_i q hq
        split at h
        · rename_i r hr
          split at h
          · rename_i ci hci
            split at h
            · rename_i rc hrc
              split at h
              · rename_i κ hκ
                obtain ⟨h1, h2⟩ := ev_many h k
                simp only [Bool.and_eq_true, beq_iff_eq] at h1
                obtain ⟨rfl, rfl, hqc, hn, hroom⟩ := h1
                unfold ev_room at hroom
                simp only [Bool.and_eq_true, decide_eq_true_eq] at hroom
                obtain ⟨p1, p2, p3, p4, p5⟩ := ev_pick_ok hκ
                obtain ⟨q1, q2⟩ := q
                dsimp only at hqc
                subst hqc
                have hSS : S = S.take n ++ (.inr (j + 2), tj) :: S' := by rw [← hS']; exact (List.take_append_drop n S).symm
                rw [hSS]
                exact fs_callV C hf hr (hK κ p1) p2 hn p3 p4 p5 hq hrc hci (by rw [hR.1]; exact hroom.1) (by rw [hR.2]; exact hroom.2.1) hroom.2.2 hd h2
              · cases h
            · cases h
          · cases h
        · cases h
      · cases h
    · cases h
  · cases h
theorem ow_cS (C : ev_cx p s m args meth c cc nL o D tys aK aV b0) (hI0 : ev_hI I sp) (hK : ∀ κ ∈ K, ek_ok l T I κ) (hR : R.frames = rm.1 ∧ R.locals = rm.2) {i : Nat} (hd : decode cc pc = .ok (.invokestatic i, len)) (h : ev_cS o T sp Wr K rm i len pc L S FS RS = some ss) (k : ∀ st ∈ ss, ev_go p l e R s m args below meth c Q D tys T I b0 nL ad w0 Wr γ st) : ev_go p l e R s m args below meth c Q D tys T I b0 nL ad w0 Wr γ (pc, L, S, FS, RS) := by
  unfold ev_cS at h
  split at h
  · rename_i kd mi n hf
    split at h
    · rename_i hmm
      split at h
      · rename_i r tr q tq S'
        obtain ⟨h1, h2⟩ := ev_one h k
        simp only [Bool.and_eq_true, beq_iff_eq, decide_eq_true_eq] at h1
        obtain ⟨rfl, rfl, rfl, h3, h4⟩ := h1
        simp only [Bool.or_eq_true, beq_iff_eq] at hmm
        rcases hmm with rfl | rfl
        · exact fs_min C hf (by rw [hR.1]; exact h3) (by rw [hR.2]; exact h4) hd h2
        · exact fs_max C hf (by rw [hR.1]; exact h3) (by rw [hR.2]; exact h4) hd h2
      · cases h
    · split at h
      · rename_i r hr
        split at h
        · rename_i κ hκ
          obtain ⟨h1, h2⟩ := ev_many h k
          simp only [Bool.and_eq_true, Bool.or_eq_true, beq_iff_eq] at h1
          obtain ⟨hkd, rfl, hn, hroom⟩ := h1
          unfold ev_room at hroom
          simp only [Bool.and_eq_true, decide_eq_true_eq] at hroom
          obtain ⟨p1, p2, p3, p4, p5⟩ := ev_pick_ok hκ
          have hSS : S = S.take n ++ S.drop n := (List.take_append_drop n S).symm
          rw [hSS]
          exact fs_callS C hf hkd hr (hK κ p1) p2 hn p3 p4 p5 (by rw [hR.1]; exact hroom.1) (by rw [hR.2]; exact hroom.2.1) hroom.2.2 hd h2
        · cases h
      · cases h
  · split at h
    · rename_i n tn d td j1 t1' a ta j0 t0' S'
      split at h
      · rename_i t0 ht0
        split at h
        · rename_i t1 ht1
          obtain ⟨h1, h2⟩ := ev_one h k
          simp only [Bool.and_eq_true, beq_iff_eq, decide_eq_true_eq, Bool.not_eq_true'] at h1
          obtain ⟨h3, rfl, h4, h5, rfl, rfl, h6, h7, h8, h9, h10, h11, h12, h13, h14, h15⟩ := h1
          have hn : n = ((n.1.toNat : Int), (n.1.toNat : Int)) := by
            obtain ⟨n1, n2⟩ := n
            dsimp only at h4 h5 ⊢
            subst h4
            have : n1 = (n1.toNat : Int) := by omega
            rw [← this]
          rw [hn]
          exact fs_copy C hI0 (List.contains_iff_mem.mp h3) ht0 ht1 h6 h7 h8 h9 h10 h11 (ev_ct h12) (ev_cf h13) (by rw [hR.1]; exact h14) (by rw [hR.2]; exact h15) hd h2
        · cases h
      · cases h
    · cases h
set_option maxHeartbeats 4000000 in
theorem ev_op_ok (C : ev_cx p s m args meth c cc nL o D tys aK aV b0) (hI0 : ev_hI I sp) (hK : ∀ κ ∈ K, ek_ok l T I κ) (hR : R.frames = rm.1 ∧ R.locals = rm.2) {op : Instr} (hd : decode cc pc = .ok (op, len)) (h : ev_op o T sp Wr K rm op len pc L S FS RS = some ss) (k : ∀ st ∈ ss, ev_go p l e R s m args below meth c Q D tys T I b0 nL ad w0 Wr γ st) : ev_go p l e R s m args below meth c Q D tys T I b0 nL ad w0 Wr γ (pc, L, S, FS, RS) := by
  cases op with
  | iconst n =>
    obtain ⟨rfl, h2⟩ := ow_kn (h : ev_kn 1 (Int32.ofInt n) len pc L S FS RS = some ss) k
    exact fs_push (en_in_self _) (fun H locs ls rest k => lv_iconst C.1 C.2.1 hd rfl k) h2
  | bipush n =>
    obtain ⟨rfl, h2⟩ := ow_kn (h : ev_kn 2 (Int8.ofInt n).toInt32 len pc L S FS RS = some ss) k
    exact fs_push (en_in_self _) (fun H locs ls rest k => lv_bipush C.1 C.2.1 hd rfl k) h2
  | sipush n =>
    obtain ⟨rfl, h2⟩ := ow_kn (h : ev_kn 3 (Int16.ofInt n).toInt32 len pc L S FS RS = some ss) k
    exact fs_push (en_in_self _) (fun H locs ls rest k => lv_sipush C.1 C.2.1 hd rfl k) h2
  | ldc i =>
    dsimp only [ev_op] at h
    split at h
    · rename_i v hv
      obtain ⟨rfl, h2⟩ := ow_kn h k
      have hw : Cond.constant (en_nm o) i (Int32.ofInt v) ∈ en_ws := en_ws_in (en_kc_in _ (List.mem_map.mpr ⟨(o, i, v), en_find_mem hv, rfl⟩)) rfl
      exact fs_push (en_in_self _) (fun H locs ls rest k => lv_ldc C.1 C.2.1 C.2.2.2.1 (C.2.2.2.2.1 _ hw) hd k) h2
    · cases h
  | ldc_w i =>
    dsimp only [ev_op] at h
    split at h
    · rename_i v hv
      obtain ⟨rfl, h2⟩ := ow_kn h k
      have hw : Cond.constant (en_nm o) i (Int32.ofInt v) ∈ en_ws := en_ws_in (en_kc_in _ (List.mem_map.mpr ⟨(o, i, v), en_find_mem hv, rfl⟩)) rfl
      exact fs_push (en_in_self _) (fun H locs ls rest k => lv_ldcw C.1 C.2.1 C.2.2.2.1 (C.2.2.2.2.1 _ hw) hd k) h2
    · cases h
  | iload_n i =>
    obtain ⟨rfl, q, g, h1, h2⟩ := ow_ld (h : ev_ld 1 i.val len pc L S FS RS = some ss) k
    exact fs_iload h1 (fun H locs ls rest v h k => lv_iload_n C.1 C.2.1 hd rfl h k) h2
  | iload i =>
    obtain ⟨rfl, q, g, h1, h2⟩ := ow_ld (h : ev_ld 2 i len pc L S FS RS = some ss) k
    exact fs_iload h1 (fun H locs ls rest v h k => lv_iload C.1 C.2.1 hd h k) h2
  | aload_n i =>
    obtain ⟨rfl, q, g, h1, h2⟩ := ow_la (h : ev_la 1 i.val len pc L S FS RS = some ss) k
    exact fs_aload h1 (fun H locs ls rest v h k => lv_aload_n C.1 C.2.1 hd rfl h k) h2
  | aload i =>
    obtain ⟨rfl, q, g, h1, h2⟩ := ow_la (h : ev_la 2 i len pc L S FS RS = some ss) k
    exact fs_aload h1 (fun H locs ls rest v h k => lv_aload C.1 C.2.1 hd h k) h2
  | istore_n i =>
    obtain ⟨rfl, h1, q, t, S', rfl, h2⟩ := ow_st (h : ev_st 1 i.val len pc L S FS RS = some ss) k
    refine fs_goI h1 (fun H locs ls rest x hx z1 z2 hL k => ?_) h2
    obtain ⟨v, rfl, hv⟩ := hx
    exact lv_istore_n C.1 C.2.1 hd rfl (en_lv_has z1 z2) (by omega) rfl k
  | istore i =>
    obtain ⟨rfl, h1, q, t, S', rfl, h2⟩ := ow_st (h : ev_st 2 i len pc L S FS RS = some ss) k
    refine fs_goI h1 (fun H locs ls rest x hx z1 z2 hL k => ?_) h2
    obtain ⟨v, rfl, hv⟩ := hx
    exact lv_istore C.1 C.2.1 hd (en_lv_has z1 z2) (by omega) rfl k
  | astore_n i =>
    obtain ⟨rfl, h1, j, t, S', rfl, h2⟩ := ow_sa (h : ev_sa 1 i.val len pc L S FS RS = some ss) k
    refine fs_goI h1 (fun H locs ls rest x hx z1 z2 hL k => ?_) h2
    obtain ⟨rfl, hv⟩ : x = .ref (ad j) ∧ j < T.length := hx
    exact lv_astore_n C.1 C.2.1 hd rfl (en_lv_has z1 z2) (by omega) rfl k
  | astore i =>
    obtain ⟨rfl, h1, j, t, S', rfl, h2⟩ := ow_sa (h : ev_sa 2 i len pc L S FS RS = some ss) k
    refine fs_goI h1 (fun H locs ls rest x hx z1 z2 hL k => ?_) h2
    obtain ⟨rfl, hv⟩ : x = .ref (ad j) ∧ j < T.length := hx
    exact lv_astore C.1 C.2.1 hd (en_lv_has z1 z2) (by omega) rfl k
  | iinc i n =>
    dsimp only [ev_op] at h
    split at h
    · rename_i q g hq
      split at h
      · rename_i hex
        obtain ⟨h1, h2⟩ := ev_one h k
        simp only [beq_iff_eq] at h1
        subst h1
        exact fs_iinc C hq hex hd h2
      · obtain ⟨h1, h2⟩ := ev_one h k
        simp only [beq_iff_eq] at h1
        subst h1
        exact fs_iincF C hq hd h2
    · cases h
  | iadd =>
    obtain ⟨rfl, r, tr, q, tq, S', rfl, -, h2⟩ := ow_bn (h : ev_bn en_add ev_ta (fun _ => true) len pc L S FS RS = some ss) k
    exact fs_bin (fun x y => x + y) (fun ls ws x y hx hy tx ty => ⟨en_add_in hx hy, ev_ta_ok hx hy tx ty⟩) (fun H locs ls rest x y _ _ k => lv_iadd C.1 C.2.1 hd k) h2
  | isub =>
    obtain ⟨rfl, r, tr, q, tq, S', rfl, -, h2⟩ := ow_bn (h : ev_bn ev_sub (fun q r tq _ => ev_ts q r tq) (fun _ => true) len pc L S FS RS = some ss) k
    exact fs_bin (fun x y => x - y) (fun ls ws x y hx hy tx ty => ⟨ev_sub_in hx hy, ev_ts_ok hx hy tx⟩) (fun H locs ls rest x y _ _ k => lv_isub C.1 C.2.1 hd k) h2
  | imul =>
    obtain ⟨rfl, r, tr, q, tq, S', rfl, -, h2⟩ := ow_bn (h : ev_bn en_mul (fun _ _ _ _ => ev_nt) (fun _ => true) len pc L S FS RS = some ss) k
    exact fs_bin (fun x y => x * y) (fun ls ws x y hx hy tx ty => ⟨en_mul_in hx hy, ev_tag0⟩) (fun H locs ls rest x y _ _ k => lv_imul C.1 C.2.1 hd k) h2
  | iand =>
    obtain ⟨rfl, r, tr, q, tq, S', rfl, -, h2⟩ := ow_bn (h : ev_bn en_and (fun _ _ _ _ => ev_nt) (fun _ => true) len pc L S FS RS = some ss) k
    exact fs_bin (fun x y => x &&& y) (fun ls ws x y hx hy tx ty => ⟨en_and_in hx hy, ev_tag0⟩) (fun H locs ls rest x y _ _ k => lv_iand C.1 C.2.1 hd k) h2
  | ior =>
    obtain ⟨rfl, r, tr, q, tq, S', rfl, -, h2⟩ := ow_bn (h : ev_bn (fun _ _ => en_full) (fun _ _ _ _ => ev_nt) (fun _ => true) len pc L S FS RS = some ss) k
    exact fs_bin (fun x y => x ||| y) (fun ls ws x y hx hy tx ty => ⟨en_full_in _, ev_tag0⟩) (fun H locs ls rest x y _ _ k => lv_ior C.1 C.2.1 hd k) h2
  | ixor =>
    obtain ⟨rfl, r, tr, q, tq, S', rfl, -, h2⟩ := ow_bn (h : ev_bn (fun _ _ => en_full) (fun _ _ _ _ => ev_nt) (fun _ => true) len pc L S FS RS = some ss) k
    exact fs_bin (fun x y => x ^^^ y) (fun ls ws x y hx hy tx ty => ⟨en_full_in _, ev_tag0⟩) (fun H locs ls rest x y _ _ k => lv_ixor C.1 C.2.1 hd k) h2
  | ishl =>
    obtain ⟨rfl, r, tr, q, tq, S', rfl, -, h2⟩ := ow_bn (h : ev_bn (fun _ _ => en_full) (fun _ _ _ _ => ev_nt) (fun _ => true) len pc L S FS RS = some ss) k
    exact fs_bin (fun x y => x <<< (y &&& 31)) (fun ls ws x y hx hy tx ty => ⟨en_full_in _, ev_tag0⟩) (fun H locs ls rest x y _ _ k => lv_ishl C.1 C.2.1 hd k) h2
  | ishr =>
    obtain ⟨rfl, r, tr, q, tq, S', rfl, -, h2⟩ := ow_bn (h : ev_bn (fun _ _ => en_full) (fun _ _ _ _ => ev_nt) (fun _ => true) len pc L S FS RS = some ss) k
    exact fs_bin (fun x y => x >>> (y &&& 31)) (fun ls ws x y hx hy tx ty => ⟨en_full_in _, ev_tag0⟩) (fun H locs ls rest x y _ _ k => lv_ishr C.1 C.2.1 hd k) h2
  | iushr =>
    obtain ⟨rfl, r, tr, q, tq, S', rfl, -, h2⟩ := ow_bn (h : ev_bn (fun _ _ => en_full) (fun _ _ _ _ => ev_nt) (fun _ => true) len pc L S FS RS = some ss) k
    exact fs_bin (fun x y => (x.toUInt32 >>> (y.toUInt32 &&& Int32.toUInt32 31)).toInt32) (fun ls ws x y hx hy tx ty => ⟨en_full_in _, ev_tag0⟩) (fun H locs ls rest x y _ _ k => lv_iushr C.1 C.2.1 hd rfl k) h2
  | idiv =>
    obtain ⟨rfl, r, tr, q, tq, S', rfl, hz, h2⟩ := ow_bn (h : ev_bn ev_idiv (fun _ _ _ _ => ev_nt) ev_nz len pc L S FS RS = some ss) k
    exact fs_bin (fun x y => x / y) (fun ls ws x y hx hy tx ty => ⟨ev_idiv_in hx hy, ev_tag0⟩) (fun H locs ls rest x y _ hy k => lv_idiv C.1 C.2.1 hd (ev_nz_ok hz hy) k) h2
  | irem =>
    obtain ⟨rfl, r, tr, q, tq, S', rfl, hz, h2⟩ := ow_bn (h : ev_bn ev_irem (fun _ _ _ _ => ev_nt) ev_nz len pc L S FS RS = some ss) k
    exact fs_bin (fun x y => x - x / y * y) (fun ls ws x y hx hy tx ty => ⟨ev_irem_in hx hy, ev_tag0⟩) (fun H locs ls rest x y _ hy k => lv_irem C.1 C.2.1 hd (ev_nz_ok hz hy) k) h2
  | i2b =>
    dsimp only [ev_op] at h
    split at h
    · obtain ⟨h1, h2⟩ := ev_one h k
      simp only [beq_iff_eq] at h1
      subst h1
      exact fs_un (fun x => x.toInt8.toInt32) (fun x _ => en_i2b_in x) rfl (fun H locs ls rest x k => lv_i2b C.1 C.2.1 hd rfl k) h2
    · cases h
  | dup =>
    dsimp only [ev_op] at h
    split at h
    · obtain ⟨h1, h2⟩ := ev_one h k
      simp only [beq_iff_eq] at h1
      subst h1
      exact fs_dup C hd h2
    · cases h
  | dup2 =>
    dsimp only [ev_op] at h
    split at h
    · obtain ⟨h1, h2⟩ := ev_one h k
      simp only [beq_iff_eq] at h1
      subst h1
      exact fs_dup2 C hd h2
    · cases h
  | pop =>
    dsimp only [ev_op] at h
    split at h
    · obtain ⟨h1, h2⟩ := ev_one h k
      simp only [beq_iff_eq] at h1
      subst h1
      exact fs_pop C hd h2
    · cases h
  | goto off =>
    dsimp only [ev_op] at h
    obtain ⟨h1, h2⟩ := ev_one h k
    simp only [Bool.and_eq_true, beq_iff_eq] at h1
    obtain ⟨rfl, h1⟩ := h1
    exact fs_goto C h1 hd h2
  | if_icmp cd off =>
    dsimp only [ev_op] at h
    split at h
    · obtain ⟨h1, h2⟩ := ev_many h k
      simp only [Bool.and_eq_true, beq_iff_eq] at h1
      obtain ⟨rfl, h1⟩ := h1
      exact fs_icmp C h1 hd h2
    · cases h
  | ifCond cd off =>
    dsimp only [ev_op] at h
    split at h
    · obtain ⟨h1, h2⟩ := ev_many h k
      simp only [Bool.and_eq_true, beq_iff_eq] at h1
      obtain ⟨rfl, h1⟩ := h1
      exact fs_if C h1 hd h2
    · cases h
  | tableswitch d lo hi offs =>
    dsimp only [ev_op] at h
    split at h
    · obtain ⟨h1, h2⟩ := ev_many h k
      exact fs_tsw C h1 hd h2
    · cases h
  | lookupswitch d ps =>
    dsimp only [ev_op] at h
    split at h
    · obtain ⟨h1, h2⟩ := ev_many h k
      exact fs_lsw C h1 hd h2
    · cases h
  | arraylength =>
    dsimp only [ev_op] at h
    split at h
    · split at h
      · rename_i t ht
        obtain ⟨h1, h2⟩ := ev_one h k
        simp only [Bool.and_eq_true, beq_iff_eq, decide_eq_true_eq, Bool.not_eq_true', beq_eq_false_iff_ne] at h1
        obtain ⟨rfl, h3, h4⟩ := h1
        exact fs_alen C ht h3 h4 hd h2
      · cases h
    · cases h
  | iaload =>
    obtain ⟨rfl, q, tq, j, tj, S', t, rfl, ht, h3, h4, h5, h2⟩ := ow_al (h : ev_al T 0 0 len pc L S FS RS = some ss) k
    have ht0 : t.1 = 0 := h3.elim id id
    exact fs_ald ht (by rw [ht0]; decide) h4 h5 (fun H locs ls rest ws a cA f i hP ha hty hin k => va_iald C.1 C.2.1 C.2.2.2.2.2.1 hP j t.1 ha (by rw [hty, ht0]; rfl) hin hd k) h2
  | baload =>
    obtain ⟨rfl, q, tq, j, tj, S', t, rfl, ht, h3, h4, h5, h2⟩ := ow_al (h : ev_al T 1 2 len pc L S FS RS = some ss) k
    rcases h3 with ht0 | ht0
    · exact fs_ald ht (by rw [ht0]; decide) h4 h5 (fun H locs ls rest ws a cA f i hP ha hty hin k => va_zald C.1 C.2.1 C.2.2.2.2.2.1 hP j t.1 ha (by rw [hty, ht0]; rfl) hin hd k) h2
    · exact fs_ald ht (by rw [ht0]; decide) h4 h5 (fun H locs ls rest ws a cA f i hP ha hty hin k => va_bald C.1 C.2.1 C.2.2.2.2.2.1 hP j t.1 ha (by rw [hty, ht0]; rfl) hin hd k) h2
  | aaload =>
    dsimp only [ev_op] at h
    split at h
    · rename_i q tq j tj S'
      split at h
      · rename_i t ht
        obtain ⟨h1, h2⟩ := ev_one h k
        simp only [Bool.and_eq_true, beq_iff_eq, decide_eq_true_eq] at h1
        obtain ⟨rfl, h3, h4, h5, h6⟩ := h1
        have hn : q = ((q.1.toNat : Int), (q.1.toNat : Int)) := by
          obtain ⟨n1, n2⟩ := q
          dsimp only at h4 h5 ⊢
          subst h4
          have : n1 = (n1.toNat : Int) := by omega
          rw [← this]
        rw [hn]
        exact fs_aald C ht h3 h6 hd h2
      · cases h
    · cases h
  | iastore =>
    have h0 : ev_as T sp Wr true len pc L S FS RS = some ss := h
    obtain ⟨rfl, v, tv, q, tq, j, tj, S', t, rfl, ht, h3, ⟨h4, h5, h6, h7, h8, h9⟩, h2⟩ := ow_as (b := true) h0 k
    rcases h3 with ⟨-, ht0⟩ | ⟨h3, -⟩
    · exact fs_ast hI0 ht (by rw [ht0]; decide) h4 h5 h6 h7 h8 h9 (fun H locs ls rest ws a cA f i x _ hP hD hS ha hty hin k => va_iast C.1 C.2.1 C.2.2.2.2.2.1 hP hD hS j t.1 ha (by rw [hty, ht0]; rfl) hin hd k) h2
    · cases h3
  | bastore =>
    have h0 : ev_as T sp Wr false len pc L S FS RS = some ss := h
    obtain ⟨rfl, v, tv, q, tq, j, tj, S', t, rfl, ht, h3, ⟨h4, h5, h6, h7, h8, h9⟩, h2⟩ := ow_as (b := false) h0 k
    rcases h3 with ⟨h3, -⟩ | ⟨-, ⟨ht0, a1, a2⟩ | ⟨ht0, a1, a2⟩⟩
    · cases h3
    · exact fs_ast hI0 ht (by rw [ht0]; decide) h4 h5 h6 h7 h8 h9 (fun H locs ls rest ws a cA f i x hx hP hD hS ha hty hin k => va_bast C.1 C.2.1 C.2.2.2.2.2.1 hP hD hS j t.1 ha (by rw [hty, ht0]; rfl) hin hd (by obtain ⟨hx1, hx2⟩ := hx; rw [en_nar_b (by omega) (by omega)]; exact k)) h2
    · exact fs_ast hI0 ht (by rw [ht0]; decide) h4 h5 h6 h7 h8 h9 (fun H locs ls rest ws a cA f i x hx hP hD hS ha hty hin k => va_zast C.1 C.2.1 C.2.2.2.2.2.1 hP hD hS j t.1 ha (by rw [hty, ht0]; rfl) hin hd (by obtain ⟨hx1, hx2⟩ := hx; rw [en_vp_nar (en_nar_z (by omega) (by omega))]; exact k)) h2
  | getfield i =>
    dsimp only [ev_op] at h
    split at h
    · rename_i ci f hf
      split at h
      · split at h
        · rename_i q hq
          split at h
          · rename_i r hr
            split at h
            · rename_i b ha
              obtain ⟨h1, h2⟩ := ev_one h k
              simp only [Bool.and_eq_true, beq_iff_eq, decide_eq_true_eq] at h1
              obtain ⟨rfl, h3, h4⟩ := h1
              obtain ⟨q1, q2⟩ := q
              dsimp only at h3 ha
              subst h3
              exact fs_geti C hf hr h4 hq ha hd h2
            · rename_i n ha
              obtain ⟨h1, h2⟩ := ev_one h k
              simp only [Bool.and_eq_true, beq_iff_eq, decide_eq_true_eq] at h1
              obtain ⟨rfl, h3, h4⟩ := h1
              obtain ⟨q1, q2⟩ := q
              dsimp only at h3 ha
              subst h3
              exact fs_getr C hf hr h4 hq ha hd h2
            · cases h
          · cases h
        · cases h
      · cases h
    · cases h
  | putfield i =>
    dsimp only [ev_op] at h
    split at h
    · rename_i ci f hf
      split at h
      · split at h
        · rename_i q hq
          split at h
          · rename_i r hr
            split at h
            · rename_i b ha
              obtain ⟨h1, h2⟩ := ev_one h k
              simp only [Bool.and_eq_true, beq_iff_eq, decide_eq_true_eq, Bool.not_eq_true'] at h1
              obtain ⟨rfl, h3, h4, h5, h6, h7, h8, h9⟩ := h1
              obtain ⟨q1, q2⟩ := q
              dsimp only at h3 ha
              subst h3
              exact fs_puti C hI0 hf hr h4 hq ha h5 h6 h7 (ev_ct h8) (ev_cf h9) hd h2
            · cases h
          · cases h
        · cases h
      · cases h
    · cases h
  | invokevirtual i => exact ow_cV C hK hR hd h k
  | invokestatic i => exact ow_cS C hI0 hK hR hd h k
  | _ => cases h
end EVO
/-- lexicographic order of lists of one length -/
def ev_lx : List Nat → List Nat → Prop
  | a :: as, b :: bs => a < b ∨ (a = b ∧ ev_lx as bs)
  | _, _ => False
theorem ev_lx_ind : ∀ (n : Nat) (P : List Nat → Prop), (∀ v : List Nat, v.length = n → (∀ u : List Nat, u.length = n → ev_lx u v → P u) → P v) → ∀ v : List Nat, v.length = n → P v
  | 0, P, h, v, hv => by
    refine h v hv (fun u hu hl => ?_)
    cases u with
    | nil => exact hl.elim
    | cons a as => cases hu
  | n + 1, P, h, v, hv => by
    have key : ∀ (a : Nat) (as : List Nat), as.length = n → P (a :: as) := by
      intro a
      induction a using Nat.strongRecOn with
      | _ a iha =>
        refine ev_lx_ind n (fun as => P (a :: as)) (fun as has hih => h (a :: as) (by rw [List.length_cons, has]) (fun u hu hl => ?_))
        cases u with
        | nil => cases hu
        | cons b bs =>
          have hbs : bs.length = n := by simpa using hu
          rcases hl with hl | ⟨rfl, hl⟩
          · exact iha b hl bs hbs
          · exact hih bs hbs hl
    cases v with
    | nil => cases hv
    | cons a as => exact key a as (by simpa using hv)
/-- a part of a measure: a constant; what is left up to a bound; what is left down to one -/
abbrev ev_m : Type := Nat × (Nat × Nat × Nat) × Int
def ev_mn (c : ev_m) (v : Int) : Nat := match c.1 with
  | 0 => c.2.2.toNat
  | 1 => (c.2.2 - v).toNat
  | _ => (v - c.2.2).toNat
def ev_vec (γ : Nat → Int) : Nat → List ev_m → List Nat
  | _, [] => []
  | k, c :: cs => ev_mn c (γ k) :: ev_vec γ (k + 1) cs
theorem ev_vec_len {γ : Nat → Int} : ∀ (cs : List ev_m) (k : Nat), (ev_vec γ k cs).length = cs.length
  | [], _ => rfl
  | _ :: cs, k => by unfold ev_vec; rw [List.length_cons, ev_vec_len cs (k + 1), List.length_cons]
def ev_gx (γ : Nat → Int) (ls : Array Slot) (ws : va_W) (k : Nat) (cs : List ev_m) : Prop := ∀ (i : Nat) (c : ev_m), cs[i]? = some c → c.1 = 0 ∨ ∃ x : Int32, ev_loc ls ws c.2.1 x ∧ γ (k + i) = x.toInt
theorem ev_gx_tail {γ : Nat → Int} {ls : Array Slot} {ws : va_W} {k : Nat} {c : ev_m} {cs : List ev_m} (h : ev_gx γ ls ws k (c :: cs)) : ev_gx γ ls ws (k + 1) cs := by
  intro i d hi
  have := h (i + 1) d (by rw [List.getElem?_cons_succ]; exact hi)
  rw [show k + 1 + i = k + (i + 1) by omega]
  exact this
theorem ev_gx_ex {ls : Array Slot} {ws : va_W} {cs : List ev_m} (h : ∀ c ∈ cs, c.1 = 0 ∨ ∃ x : Int32, ev_loc ls ws c.2.1 x) : ∃ γ : Nat → Int, ev_gx γ ls ws 0 cs := by
  classical
  refine ⟨fun k => if hk : ∃ x : Int32, ∃ c, cs[k]? = some c ∧ ev_loc ls ws c.2.1 x then (Classical.choose hk).toInt else 0, fun i c hi => ?_⟩
  rcases h c (List.mem_of_getElem? hi) with h0 | ⟨x, hx⟩
  · exact Or.inl h0
  · refine Or.inr ?_
    have hk : ∃ x : Int32, ∃ c, cs[i]? = some c ∧ ev_loc ls ws c.2.1 x := ⟨x, c, hi, hx⟩
    obtain ⟨d, h1, h2⟩ := Classical.choose_spec hk
    rw [hi] at h1
    cases h1
    refine ⟨Classical.choose hk, h2, ?_⟩
    rw [Nat.zero_add]
    exact dif_pos hk
/-- a place's bounds and ghost -/
def ev_gl (L : List ev_l) (FS : List ev_f) (q : Nat × Nat × Nat) : Option ((Int × Int) × Option (Nat × Int)) := match q.1 with
  | 1 => match L[q.2.1]? with
    | some (some (.inl b, g)) => some (b, g)
    | _ => none
  | _ => ev_lk FS q
theorem ev_gl_ok {N : Nat} {ad : Nat → Nat} {γ : Nat → Int} {L : List ev_l} {FS : List ev_f} {ls : Array Slot} {ws : va_W} {q : Nat × Nat × Nat} {u : (Int × Int) × Option (Nat × Int)} (hl : ev_lo N ad γ L ls) (hf : ∀ f ∈ FS, ev_fact γ ls ws f) (h : ev_gl L FS q = some u) : ∃ x : Int32, ev_loc ls ws q x ∧ en_in u.1 x ∧ ev_gt γ u.2 (.int x) := by
  obtain ⟨k, a, b⟩ := q
  unfold ev_gl at h
  split at h
  · rename_i hk
    dsimp only at hk
    subst hk
    split at h
    · rename_i b0 g hq
      cases h
      obtain ⟨x, h1, ⟨z, rfl, h2⟩, h3⟩ := hl a _ hq
      exact ⟨z, h1, h2, h3⟩
    · cases h
  · exact ev_lk_ok hf h
def ev_lt (L : List ev_l) (FS : List ev_f) (k : Nat) (c d : ev_m) : Bool := match c.1, d.1 with
  | 0, 0 => decide (d.2.2.toNat < c.2.2.toNat)
  | 1, 1 => decide (c.2.2 = d.2.2) && (match ev_gl L FS d.2.1 with
    | some (b, some (g, off)) => g == k && (decide (0 < off) && decide (b.2 ≤ d.2.2))
    | _ => false)
  | 2, 2 => decide (c.2.2 = d.2.2) && (match ev_gl L FS d.2.1 with
    | some (b, some (g, off)) => g == k && (decide (off < 0) && decide (d.2.2 ≤ b.1))
    | _ => false)
  | _, _ => false
def ev_eq (L : List ev_l) (FS : List ev_f) (k : Nat) (c d : ev_m) : Bool := match c.1, d.1 with
  | 0, 0 => decide (d.2.2.toNat = c.2.2.toNat)
  | 1, 1 => decide (c.2.2 = d.2.2) && (match ev_gl L FS d.2.1 with
    | some (_, some (g, off)) => g == k && decide (off = 0)
    | _ => false)
  | 2, 2 => decide (c.2.2 = d.2.2) && (match ev_gl L FS d.2.1 with
    | some (_, some (g, off)) => g == k && decide (off = 0)
    | _ => false)
  | _, _ => false
def ev_dec (L : List ev_l) (FS : List ev_f) : Nat → List ev_m → List ev_m → Bool
  | k, c :: cs, d :: ds => ev_lt L FS k c d || (ev_eq L FS k c d && ev_dec L FS (k + 1) cs ds)
  | _, _, _ => false
section EVL0
variable {N : Nat} {ad : Nat → Nat} {γ γ' : Nat → Int} {L : List ev_l} {FS : List ev_f} {ls : Array Slot} {ws : va_W}
theorem ev_gk {k g : Nat} {off : Int} {b : Int × Int} {d : ev_m} (hl : ev_lo N ad γ L ls) (hf : ∀ f ∈ FS, ev_fact γ ls ws f) (h : ev_gl L FS d.2.1 = some (b, some (g, off))) (hg : g = k) (hd : d.1 ≠ 0) (hx : d.1 = 0 ∨ ∃ x : Int32, ev_loc ls ws d.2.1 x ∧ γ' k = x.toInt) : γ' k = γ k + off ∧ b.1 ≤ γ' k ∧ γ' k ≤ b.2 := by
  obtain ⟨x, h1, h2, i, e, h3⟩ := ev_gl_ok hl hf h
  cases e
  rcases hx with hx | ⟨y, h4, h5⟩
  · exact absurd hx hd
  · have e := ev_loc_one h1 h4
    subst e
    subst hg
    exact ⟨h5.trans h3, by rw [h5]; exact h2.1, by rw [h5]; exact h2.2⟩
theorem ev_lt_ok {k : Nat} {c d : ev_m} (hl : ev_lo N ad γ L ls) (hf : ∀ f ∈ FS, ev_fact γ ls ws f) (h : ev_lt L FS k c d = true) (hx : d.1 = 0 ∨ ∃ x : Int32, ev_loc ls ws d.2.1 x ∧ γ' k = x.toInt) : ev_mn d (γ' k) < ev_mn c (γ k) := by
  obtain ⟨c1, c2, c3⟩ := c
  obtain ⟨d1, d2, d3⟩ := d
  unfold ev_lt at h
  split at h
  · rename_i e1 e2
    dsimp only at e1 e2
    subst e1
    subst e2
    exact of_decide_eq_true h
  · rename_i e1 e2
    dsimp only at e1 e2
    subst e1
    subst e2
    rw [Bool.and_eq_true] at h
    obtain ⟨h1, h2⟩ := h
    split at h2
    · rename_i b g off hg
      simp only [Bool.and_eq_true, beq_iff_eq, decide_eq_true_eq] at h1 h2
      obtain ⟨h3, h4, h5⟩ := h2
      obtain ⟨a1, a2, a3⟩ := ev_gk hl hf hg h3 (fun h => by cases h) hx
      show (d3 - γ' k).toNat < (c3 - γ k).toNat
      omega
    · cases h2
  · rename_i e1 e2
    dsimp only at e1 e2
    subst e1
    subst e2
    rw [Bool.and_eq_true] at h
    obtain ⟨h1, h2⟩ := h
    split at h2
    · rename_i b g off hg
      simp only [Bool.and_eq_true, beq_iff_eq, decide_eq_true_eq] at h1 h2
      obtain ⟨h3, h4, h5⟩ := h2
      obtain ⟨a1, a2, a3⟩ := ev_gk hl hf hg h3 (fun h => by cases h) hx
      show (γ' k - d3).toNat < (γ k - c3).toNat
      omega
    · cases h2
  · cases h
theorem ev_eq_ok {k : Nat} {c d : ev_m} (hl : ev_lo N ad γ L ls) (hf : ∀ f ∈ FS, ev_fact γ ls ws f) (h : ev_eq L FS k c d = true) (hx : d.1 = 0 ∨ ∃ x : Int32, ev_loc ls ws d.2.1 x ∧ γ' k = x.toInt) : ev_mn d (γ' k) = ev_mn c (γ k) := by
  obtain ⟨c1, c2, c3⟩ := c
  obtain ⟨d1, d2, d3⟩ := d
  unfold ev_eq at h
  split at h
  · rename_i e1 e2
    dsimp only at e1 e2
    subst e1
    subst e2
    exact of_decide_eq_true h
  · rename_i e1 e2
    dsimp only at e1 e2
    subst e1
    subst e2
    rw [Bool.and_eq_true] at h
    obtain ⟨h1, h2⟩ := h
    split at h2
    · rename_i b g off hg
      simp only [Bool.and_eq_true, beq_iff_eq, decide_eq_true_eq] at h1 h2
      obtain ⟨h3, h4⟩ := h2
      obtain ⟨a1, a2, a3⟩ := ev_gk hl hf hg h3 (fun h => by cases h) hx
      show (d3 - γ' k).toNat = (c3 - γ k).toNat
      omega
    · cases h2
  · rename_i e1 e2
    dsimp only at e1 e2
    subst e1
    subst e2
    rw [Bool.and_eq_true] at h
    obtain ⟨h1, h2⟩ := h
    split at h2
    · rename_i b g off hg
      simp only [Bool.and_eq_true, beq_iff_eq, decide_eq_true_eq] at h1 h2
      obtain ⟨h3, h4⟩ := h2
      obtain ⟨a1, a2, a3⟩ := ev_gk hl hf hg h3 (fun h => by cases h) hx
      show (γ' k - d3).toNat = (γ k - c3).toNat
      omega
    · cases h2
  · cases h
theorem ev_dec_ok (hl : ev_lo N ad γ L ls) (hf : ∀ f ∈ FS, ev_fact γ ls ws f) : ∀ {cs ds : List ev_m} {k : Nat}, ev_dec L FS k cs ds = true → ev_gx γ' ls ws k ds → ev_lx (ev_vec γ' k ds) (ev_vec γ k cs)
  | c :: cs, d :: ds, k, h, hx => by
    unfold ev_dec at h
    rw [Bool.or_eq_true, Bool.and_eq_true] at h
    have h0 := hx 0 d rfl
    rw [Nat.add_zero] at h0
    rcases h with h | ⟨h1, h2⟩
    · exact Or.inl (ev_lt_ok hl hf h h0)
    · exact Or.inr ⟨ev_eq_ok hl hf h1 h0, ev_dec_ok hl hf h2 (ev_gx_tail hx)⟩
  | [], _, _, h, _ => by cases h
  | _ :: _, [], _, h, _ => by cases h
/-- the places of a measure, marked at the head -/
def ev_tgL (L : List ev_l) (i k : Nat) : List ev_l := match L[i]? with
  | some (some (a, _)) => L.set i (some (a, some (k, 0)))
  | _ => L
def ev_tgs : Nat → List ev_m → List ev_l → List ev_f → List ev_l × List ev_f
  | _, [], L, FS => (L, FS)
  | k, c :: cs, L, FS => match c.1 == 0 with
    | true => ev_tgs (k + 1) cs L FS
    | false => match c.2.1.1 == 1 with
      | true => ev_tgs (k + 1) cs (ev_tgL L c.2.1.2.1 k) FS
      | false => ev_tgs (k + 1) cs L ((c.2.1, ev_fq FS c.2.1 en_full, some (k, 0)) :: FS)
theorem ev_tgL_ok {i k : Nat} {y : Int32} (hl : ev_lo N ad γ L ls) (hy : ls[i]? = some (.val (.int y))) (hk : γ k = y.toInt) : (ev_tgL L i k).length = L.length ∧ ev_lo N ad γ (ev_tgL L i k) ls := by
  unfold ev_tgL
  split
  · rename_i a g hq
    refine ⟨List.length_set, fun j u hj => ?_⟩
    by_cases hji : j = i
    · subst hji
      rw [List.getElem?_set_self (List.getElem?_eq_some_iff.mp hq).1] at hj
      cases hj
      obtain ⟨x, g1, g2, g3⟩ := hl j _ hq
      refine ⟨x, g1, g2, y, ?_, ?_⟩
      · exact Slot.val.inj (Option.some.inj (g1.symm.trans hy))
      · show _ = γ k + 0
        omega
    · rw [List.getElem?_set_ne (Ne.symm hji)] at hj
      exact hl j u hj
  · exact ⟨rfl, hl⟩
theorem ev_tgs_ok : ∀ {cs : List ev_m} {k : Nat} {L : List ev_l} {FS : List ev_f}, ev_lo N ad γ L ls → (∀ f ∈ FS, ev_fact γ ls ws f) → ev_gx γ ls ws k cs → (ev_tgs k cs L FS).1.length = L.length ∧ ev_lo N ad γ (ev_tgs k cs L FS).1 ls ∧ ∀ f ∈ (ev_tgs k cs L FS).2, ev_fact γ ls ws f
  | [], _, _, _, hl, hf, _ => ⟨rfl, hl, hf⟩
  | c :: cs, k, L, FS, hl, hf, hx => by
    have h0 := hx 0 c rfl
    rw [Nat.add_zero] at h0
    unfold ev_tgs
    split
    · exact ev_tgs_ok hl hf (ev_gx_tail hx)
    · rename_i hc
      simp only [beq_eq_false_iff_ne, ne_eq] at hc
      rcases h0 with h0 | ⟨x, h1, h2⟩
      · exact absurd h0 hc
      · split
        · rename_i h3
          simp only [beq_iff_eq] at h3
          have h4 : ls[c.2.1.2.1]? = some (.val (.int x)) := by
            obtain ⟨c1, ⟨d1, d2, d3⟩, c3⟩ := c
            dsimp only at h3
            subst h3
            exact h1
          obtain ⟨a1, a2⟩ := ev_tgL_ok hl h4 h2
          obtain ⟨b1, b2, b3⟩ := ev_tgs_ok a2 hf (ev_gx_tail hx)
          exact ⟨b1.trans a1, b2, b3⟩
        · refine ev_tgs_ok hl (fun f hf1 => ?_) (ev_gx_tail hx)
          rcases List.mem_cons.mp hf1 with rfl | hf1
          · exact ⟨x, h1, ev_fq_ok hf h1 (en_full_in x), x, rfl, by show _ = γ k + 0; omega⟩
          · exact hf f hf1
/-- a head's state bears no mark -/
def ev_ng (L : List ev_l) (FS : List ev_f) : Bool := L.all (fun q => match q with
  | some (_, some _) => false
  | _ => true) && FS.all (fun f => f.2.2.isNone)
theorem ev_ng_lo (h : ev_ng L FS = true) (hl : ev_lo N ad γ L ls) : ev_lo N ad γ' L ls := by
  unfold ev_ng at h
  rw [Bool.and_eq_true] at h
  intro i q hi
  obtain ⟨x, h1, h2, h3⟩ := hl i q hi
  have h4 := List.all_eq_true.mp h.1 _ (List.mem_of_getElem? hi)
  obtain ⟨a, g⟩ := q
  cases g with
  | none => exact ⟨x, h1, h2, trivial⟩
  | some u => cases h4
theorem ev_ng_f (h : ev_ng L FS = true) (hf : ∀ f ∈ FS, ev_fact γ ls ws f) : ∀ f ∈ FS, ev_fact γ' ls ws f := by
  unfold ev_ng at h
  rw [Bool.and_eq_true] at h
  intro f hf1
  obtain ⟨x, h1, h2, h3⟩ := hf f hf1
  have h4 := List.all_eq_true.mp h.2 f hf1
  simp only [Option.isNone_iff_eq_none] at h4
  exact ⟨x, h1, h2, by rw [h4]; trivial⟩
/-- a measure's places hold numbers -/
def ev_mk (T : en_T) (L : List ev_l) (c : ev_m) : Bool := match c.1 == 0 with
  | true => true
  | false => match c.2.1.1 with
    | 1 => match L[c.2.1.2.1]? with
      | some (some (.inl _, _)) => true
      | _ => false
    | 2 => match T[c.2.1.2.1]? with
      | some (.inr q) => match q.2[c.2.1.2.2]? with
        | some (.inl _) => true
        | _ => false
      | _ => false
    | _ => false
theorem ev_mk_ok {tys : List (ClassId × FieldType)} {T : en_T} {c : ev_m} (hl : ev_lo T.length ad γ L ls) (hw : ev_w tys T ad ws) (h : ev_mk T L c = true) : c.1 = 0 ∨ ∃ x : Int32, ev_loc ls ws c.2.1 x := by
  obtain ⟨c1, ⟨d1, d2, d3⟩, c3⟩ := c
  unfold ev_mk at h
  split at h
  · rename_i hc
    exact Or.inl (by simpa using hc)
  · refine Or.inr ?_
    split at h
    · rename_i hk
      dsimp only at hk
      subst hk
      split at h
      · rename_i b g hq
        obtain ⟨x, h1, ⟨z, rfl, h2⟩, h3⟩ := hl d2 _ hq
        exact ⟨z, h1⟩
      · cases h
    · rename_i hk
      dsimp only at hk
      subst hk
      split at h
      · rename_i q hq
        split at h
        · rename_i b hb
          obtain ⟨e0, g1, vs, rfl, g2⟩ := hw.2 d2 _ hq
          obtain ⟨v, g3, z, rfl, g4⟩ := en_vs_get g2 hb
          exact ⟨z, _, _, _, g1, g3⟩
        · cases h
      · cases h
    · cases h
end EVL0
/-- one state says at least what another says -/
def ev_lle (a b : ev_l) : Bool := match b with
  | none => true
  | some y => match a with
    | some x => y.2.isNone && en_le x.1 y.1
    | none => false
def ev_sle (a b : ev_s) : Bool := en_le a.1 b.1 && b.2.1 == 0
def ev_rle (L : List ev_l) (RS : List ev_r) (r : ev_r) : Bool := RS.any (fun q => q.1 == r.1 && (q.2.1 == r.2.1 && decide (q.2.2 ≤ r.2.2))) || (match L[r.1]?, L[r.2.1]? with
  | some (some (.inl a, _)), some (some (.inl b, _)) => decide (a.2 ≤ b.1 + r.2.2)
  | _, _ => false)
def ev_sub2 (T : en_T) (st x : ev_S) : Bool := st.1 == x.1 && (en_all2 ev_lle st.2.1 x.2.1 && (en_all2 ev_sle st.2.2.1 x.2.2.1 && (x.2.2.2.1.all (ev_has T st.2.2.2.1) && x.2.2.2.2.all (ev_rle st.2.1 st.2.2.2.2))))
theorem ev_sle_ok {N : Nat} {ad : Nat → Nat} {ls : Array Slot} {ws : va_W} : ∀ {as bs : List ev_s} {xs : List Value}, en_all2 ev_sle as bs = true → ev_stk N ad ls ws as xs → ev_stk N ad ls ws bs xs
  | [], [], [], _, _ => trivial
  | a :: as, b :: bs, x :: xs, h, hs => by
    simp only [en_all2, ev_sle, Bool.and_eq_true, beq_iff_eq] at h
    exact ⟨⟨en_le_ok h.1.1 hs.1.1, Or.inl h.1.2⟩, ev_sle_ok h.2 hs.2⟩
  | [], [], _ :: _, _, hs => hs.elim
  | _ :: _, _, [], _, hs => hs.elim
  | [], _ :: _, _, h, _ => by cases h
  | _ :: _, [], _, h, _ => by cases h
theorem ev_rle_ok {N : Nat} {ad : Nat → Nat} {γ : Nat → Int} {L : List ev_l} {RS : List ev_r} {ls : Array Slot} {r : ev_r} (hl : ev_lo N ad γ L ls) (hR : ∀ r ∈ RS, ev_rel ls r) (h : ev_rle L RS r = true) : ev_rel ls r := by
  unfold ev_rle at h
  rw [Bool.or_eq_true] at h
  rcases h with h | h
  · obtain ⟨q, h1, h2⟩ := List.any_eq_true.mp h
    simp only [Bool.and_eq_true, beq_iff_eq, decide_eq_true_eq] at h2
    obtain ⟨x, y, h3, h4, h5⟩ := hR q h1
    exact ⟨x, y, by rw [← h2.1]; exact h3, by rw [← h2.2.1]; exact h4, by omega⟩
  · split at h
    · rename_i a g b g' ha hb
      simp only [decide_eq_true_eq] at h
      obtain ⟨x, h1, ⟨z, rfl, h2⟩, -⟩ := hl _ _ ha
      obtain ⟨y, h3, ⟨w, rfl, h4⟩, -⟩ := hl _ _ hb
      exact ⟨z, w, h1, h3, by have := h2.2; have := h4.1; omega⟩
    · cases h
theorem ev_sub2_at {s : State} {D : va_G} {tys : List (ClassId × FieldType)} {T : en_T} {I : va_W → Prop} {b0 nL : Nat} {ad : Nat → Nat} {w0 : va_W} {Wr : List (Nat × Nat)} {γ γ' : Nat → Int} {st x : ev_S} {H : Heap} {locs : List Loc} {ls : Array Slot} {stk : List Value} {ws : va_W} (h : ev_sub2 T st x = true) (ha : ev_at s D tys T I b0 nL ad w0 Wr γ st.2.1 st.2.2.1 st.2.2.2.1 st.2.2.2.2 H locs ls stk ws) : st.1 = x.1 ∧ ev_at s D tys T I b0 nL ad w0 Wr γ' x.2.1 x.2.2.1 x.2.2.2.1 x.2.2.2.2 H locs ls stk ws := by
  unfold ev_sub2 at h
  simp only [Bool.and_eq_true, beq_iff_eq] at h
  obtain ⟨h1, h2, h3, h4, h5⟩ := h
  obtain ⟨⟨z1, z2, z3⟩, hl, hs, hf, hR, hr⟩ := ha
  refine ⟨h1, ⟨z1, z2, (en_all2_len h2).symm.trans z3⟩, fun i q hi => ?_, ev_sle_ok h3 hs, fun f hf1 => ?_, fun r hr1 => ev_rle_ok hl hR (List.all_eq_true.mp h5 r hr1), hr⟩
  · obtain ⟨b, g1, g2⟩ := en_all2_get h2 hi
    unfold ev_lle at g2
    cases b with
    | none => cases g2
    | some y =>
      obtain ⟨v, g3, g4, g5⟩ := hl i y g1
      simp only [Bool.and_eq_true, Option.isNone_iff_eq_none] at g2
      exact ⟨v, g3, en_le_ok g2.2 g4, by rw [g2.1]; trivial⟩
  · have h6 := List.all_eq_true.mp h4 f hf1
    have h7 := ev_has_ok hf hr.1 h6
    obtain ⟨y, h8, h9⟩ := ev_ff_use (γ := γ) (ls := ls) h7
    unfold ev_has at h6
    simp only [Bool.and_eq_true, Option.isNone_iff_eq_none] at h6
    exact ⟨y, h8, h9, by rw [h6.2.1]; trivial⟩
def ev_spl : List (Nat × List Int) → ev_S → List ev_S
  | [], st => [st]
  | h :: hs, st => match st.2.2.1[h.1]? with
    | some (.inl q, t) => (ev_cut q h.2).flatMap (fun u => ev_spl hs (st.1, (ev_rf st.2.1 st.2.2.2.1 t u).1, st.2.2.1.set h.1 (.inl u, t), (ev_rf st.2.1 st.2.2.2.1 t u).2, st.2.2.2.2))
    | _ => [st]
def ev_hn (SP : List (Nat × List (Nat × List Int))) (pc : Nat) : List (Nat × List Int) := match SP with
  | [] => []
  | h :: hs => match h.1 == pc with
    | true => h.2
    | false => ev_hn hs pc
def en_rt (ret : Option FieldType) (q : Int × Int) : Bool := match ret with
  | some .int => true
  | some .boolean => decide (0 ≤ q.1) && decide (q.2 ≤ 1)
  | _ => false
def ev_dw (cur : Option (List ev_m)) (ms : List ev_m) (L : List ev_l) (FS : List ev_f) : Bool := match cur with
  | none => true
  | some cs => ev_dec L FS 0 cs ms
def ev_chk (o : Nat) (cc : ByteArray) (T : en_T) (sp Wr : List (Nat × Nat)) (K : List ek) (rm : Nat × Nat) (ret : Option FieldType) (outs : List (Option en_V × List ev_f)) (SP : List (Nat × List (Nat × List Int))) (HS : List (ev_S × List ev_m)) (xs : List ev_S) (cur : Option (List ev_m)) : Nat → ev_S → Bool
  | 0, _ => false
  | n + 1, (pc, L, S, FS, RS) => HS.any (fun h => ev_sub2 T (pc, L, S, FS, RS) h.1 && ev_dw cur h.2 L FS) || (xs.any (fun x => ev_sub2 T (pc, L, S, FS, RS) x) || (match decode cc pc with
    | .ok (.ireturn, len) => (match S with
      | (.inl q, _) :: [] => len == 1 && (ret.isSome && (en_rt ret q && outs.any (fun u => (match u.1 with
        | some a => en_le (.inl q) a
        | none => false) && u.2.all (ev_has T FS))))
      | _ => false)
    | .ok (.return_, len) => (match S with
      | [] => len == 1 && (ret.isNone && outs.any (fun u => u.1.isNone && u.2.all (ev_has T FS)))
      | _ => false)
    | .ok (op, len) => (ev_spl (ev_hn SP pc) (pc, L, S, FS, RS)).all (fun st => match ev_op o T sp Wr K rm op len pc st.2.1 st.2.2.1 st.2.2.2.1 st.2.2.2.2 with
      | some ss => ss.all (ev_chk o cc T sp Wr K rm ret outs SP HS xs cur n)
      | none => false)
    | .error _ => false))
section EVK
variable {p : Program} {l : Launch} {e : Env} {R : Room} {s : State} {m : MethodId} {args : Array Value} {below : List Frame} {meth : Method} {c : Code} {Q : State → Prop} {cc : ByteArray} {D : va_G} {tys : List (ClassId × FieldType)} {T : en_T} {I : va_W → Prop} {sp : List (Nat × Nat)} {aK aV b0 nL o : Nat} {ad : Nat → Nat} {w0 : va_W} {Wr : List (Nat × Nat)} {γ : Nat → Int}
variable {K : List ek} {rm : Nat × Nat} {ret : Option FieldType} {SP : List (Nat × List (Nat × List Int))} {HS : List (ev_S × List ev_m)} {xs : List ev_S} {cur : Option (List ev_m)} {κ : ek}
theorem ev_spl_ok : ∀ {hs : List (Nat × List Int)} {st : ev_S}, (∀ u ∈ ev_spl hs st, u.1 = st.1 → ev_go p l e R s m args below meth c Q D tys T I b0 nL ad w0 Wr γ u) → ev_go p l e R s m args below meth c Q D tys T I b0 nL ad w0 Wr γ st
  | [], st, k => k st List.mem_cons_self rfl
  | h :: hs, (pc, L, S, FS, RS), k => by
    unfold ev_spl at k
    dsimp only at k
    split at k
    · rename_i q t hq
      refine fs_split hq (fun u hu => ev_spl_ok (hs := hs) (fun w hw he => k w (List.mem_flatMap.mpr ⟨u, hu, hw⟩) he))
    · exact k _ List.mem_cons_self rfl
theorem ev_chk_ok (C : ev_cx p s m args meth c cc nL o D tys aK aV b0) (hI0 : ev_hI I sp) (hK : ∀ κ ∈ K, ek_ok l T I κ) (hR : R.frames = rm.1 ∧ R.locals = rm.2) (hret : meth.sig.returnType = ret) (hWr : Wr = ek_wr κ) (hQ : Q = MQ below (ek_qc D tys T I b0 ad w0 κ ret.isSome) args s 0 0 (fun q => b0 ≤ q))
    (hH : ∀ h ∈ HS, ∀ (γ' : Nat → Int) (H : Heap) (locs : List Loc) (ls : Array Slot) (stk : List Value) (ws : va_W), ev_at s D tys T I b0 nL ad w0 Wr γ' h.1.2.1 h.1.2.2.1 h.1.2.2.2.1 h.1.2.2.2.2 H locs ls stk ws → ev_gx γ' ls ws 0 h.2 → (∀ cs, cur = some cs → ev_lx (ev_vec γ' 0 h.2) (ev_vec γ 0 cs)) → W p l e R s m args below meth c H locs 0 0 Q (F0 m h.1.1 ls stk))
    (hM : ∀ h ∈ HS, h.2.all (ev_mk T h.1.2.1) = true) (hX : ∀ x ∈ xs, ev_go p l e R s m args below meth c Q D tys T I b0 nL ad w0 Wr γ x) :
    ∀ (n : Nat) (st : ev_S), ev_chk o cc T sp Wr K rm ret (ek_out κ) SP HS xs cur n st = true → ev_go p l e R s m args below meth c Q D tys T I b0 nL ad w0 Wr γ st := by
  intro n
  induction n with
  | zero => intro st h; cases h
  | succ n ih =>
    intro st h
    obtain ⟨pc, L, S, FS, RS⟩ := st
    unfold ev_chk at h
    rw [Bool.or_eq_true, Bool.or_eq_true] at h
    rcases h with h | h | h
    · obtain ⟨x, h1, h2⟩ := List.any_eq_true.mp h
      rw [Bool.and_eq_true] at h2
      intro H locs ls stk ws ha
      have h3 := (ev_sub2_at (γ' := γ) h2.1 ha).2
      obtain ⟨γ', hg⟩ := ev_gx_ex (ls := ls) (ws := ws) (cs := x.2) (fun c0 hc => ev_mk_ok h3.2.1 h3.2.2.2.2.2.1 (List.all_eq_true.mp (hM x h1) c0 hc))
      obtain ⟨h4, h5⟩ := ev_sub2_at (γ' := γ') h2.1 ha
      have h6 := hH x h1 γ' H locs ls stk ws h5 hg (fun cs hcs => by
        have h7 := h2.2
        rw [hcs] at h7
        exact ev_dec_ok ha.2.1 ha.2.2.2.1 h7 hg)
      rw [← h4] at h6
      exact h6
    · obtain ⟨x, h1, h2⟩ := List.any_eq_true.mp h
      intro H locs ls stk ws ha
      obtain ⟨h4, h5⟩ := ev_sub2_at (γ' := γ) h2 ha
      have h6 := hX x h1 H locs ls stk ws h5
      rw [← h4] at h6
      exact h6
    · split at h
      · rename_i len hd
        split at h
        · rename_i q t
          simp only [Bool.and_eq_true, beq_iff_eq] at h
          obtain ⟨rfl, h0, h1, h2⟩ := h
          obtain ⟨u, hu, h3⟩ := List.any_eq_true.mp h2
          rw [Bool.and_eq_true] at h3
          obtain ⟨h3, h4⟩ := h3
          intro H locs ls stk ws ha
          dsimp only at ha
          obtain ⟨hz, hl, hs, hf, hRr, hw, hI, hP, hD, hS, hfr⟩ := ha
          obtain ⟨x0, ys, rfl, hv0, -, hs1⟩ := ev_stk_cons hs
          have hv1 := hv0
          obtain ⟨v, rfl, hv⟩ := hv0
          cases ys with
          | cons a b => exact hs1.elim
          | nil =>
            subst hQ
            subst hWr
            have hq : ∀ t : State, t.heap = H → s.WarmedH t.vm → ek_qc D tys T I b0 ad w0 κ ret.isSome args s (.returned (some (.int v))) t := fun t ht _ => by
              rw [h0]
              refine ⟨⟨v, ws, rfl, ⟨hw, hI, hfr, u, hu, ?_, fun f hf1 => ev_has_ok hf hw (List.all_eq_true.mp h4 f hf1)⟩, by show va_P D vwCl ws t.heap ∧ va_D (fun q => b0 ≤ q) ws; rw [ht]; exact ⟨hP, hD⟩⟩, hS.F ht⟩
              cases hua : u.1 with
              | none => rw [hua] at h3; cases h3
              | some a => rw [hua] at h3; exact ⟨a, rfl, en_le_ok h3 hv1⟩
            have hlocks := C.2.2.2.2.2.2.2.2
            unfold en_rt at h1
            split at h1
            · exact W.iret C.1 C.2.1 hret hq hS.2.2 hd
            · simp only [Bool.and_eq_true, decide_eq_true_eq] at h1
              obtain ⟨hv2, hv3⟩ := hv
              exact W.zret C.1 C.2.1 hret (en_nar_z (by omega) (by omega)) hq hS.2.2 hd
            · cases h1
        · cases h
      · rename_i len hd
        split at h
        · simp only [Bool.and_eq_true, beq_iff_eq, Option.isNone_iff_eq_none] at h
          obtain ⟨rfl, h1, h2⟩ := h
          obtain ⟨u, hu, h3⟩ := List.any_eq_true.mp h2
          simp only [Bool.and_eq_true, Option.isNone_iff_eq_none] at h3
          obtain ⟨h3, h4⟩ := h3
          intro H locs ls stk ws ha
          dsimp only at ha
          obtain ⟨hz, hl, hs, hf, hRr, hw, hI, hP, hD, hS, hfr⟩ := ha
          cases stk with
          | cons a b => exact hs.elim
          | nil =>
            subst hQ
            subst hWr
            have hlocks := C.2.2.2.2.2.2.2.2
            refine W.vret C.1 C.2.1 (hret.trans h1) (fun t ht _ => ?_) hS.2.2 hd
            rw [h1]
            exact ⟨⟨ws, rfl, ⟨hw, hI, hfr, u, hu, h3, fun f hf1 => ev_has_ok hf hw (List.all_eq_true.mp h4 f hf1)⟩, by show va_P D vwCl ws t.heap ∧ va_D (fun q => b0 ≤ q) ws; rw [ht]; exact ⟨hP, hD⟩⟩, hS.F ht⟩
        · cases h
      · rename_i op len _ _ hd
        refine ev_spl_ok (hs := ev_hn SP pc) (fun u hu he => ?_)
        have h1 := List.all_eq_true.mp h u hu
        obtain ⟨pu, Lu, Su, Fu, Ru⟩ := u
        dsimp only at he h1
        subst he
        split at h1
        · rename_i ss hss
          exact ev_op_ok C hI0 hK hR hd hss (fun st hst => ih st (List.all_eq_true.mp h1 st hst))
        · cases h1
      · cases h
/-- every head is walked: by the order of the measures -/
theorem ev_heads (C : ev_cx p s m args meth c cc nL o D tys aK aV b0) (hI0 : ev_hI I sp) (hK : ∀ κ ∈ K, ek_ok l T I κ) (hR : R.frames = rm.1 ∧ R.locals = rm.2) (hret : meth.sig.returnType = ret) (hWr : Wr = ek_wr κ) (hQ : Q = MQ below (ek_qc D tys T I b0 ad w0 κ ret.isSome) args s 0 0 (fun q => b0 ≤ q)) {N fuel : Nat}
    (hN : ∀ h ∈ HS, h.2.length = N) (hM : ∀ h ∈ HS, h.2.all (ev_mk T h.1.2.1) = true) (hG : ∀ h ∈ HS, ev_ng h.1.2.1 h.1.2.2.2.1 = true)
    (hC : ∀ h ∈ HS, ev_chk o cc T sp Wr K rm ret (ek_out κ) SP HS xs (some h.2) fuel (h.1.1, (ev_tgs 0 h.2 h.1.2.1 h.1.2.2.2.1).1, h.1.2.2.1, (ev_tgs 0 h.2 h.1.2.1 h.1.2.2.2.1).2, h.1.2.2.2.2) = true) (hX : ∀ (γ : Nat → Int), ∀ x ∈ xs, ev_go p l e R s m args below meth c Q D tys T I b0 nL ad w0 Wr γ x) :
    ∀ v : List Nat, v.length = N → ∀ h ∈ HS, ∀ (γ : Nat → Int) (H : Heap) (locs : List Loc) (ls : Array Slot) (stk : List Value) (ws : va_W), ev_at s D tys T I b0 nL ad w0 Wr γ h.1.2.1 h.1.2.2.1 h.1.2.2.2.1 h.1.2.2.2.2 H locs ls stk ws → ev_gx γ ls ws 0 h.2 → ev_vec γ 0 h.2 = v → W p l e R s m args below meth c H locs 0 0 Q (F0 m h.1.1 ls stk) := by
  refine ev_lx_ind N _ (fun v hv ih => ?_)
  intro h hh γ H locs ls stk ws ha hg hvec
  obtain ⟨⟨z1, z2, z3⟩, hl, hs, hf, hRr, hr⟩ := ha
  obtain ⟨t1, t2, t3⟩ := ev_tgs_ok (k := 0) hl hf hg
  refine ev_chk_ok (γ := γ) C hI0 hK hR hret hWr hQ (cur := some h.2) (fun h' hh' γ' H' locs' ls' stk' ws' ha' hg' hlx => ?_) hM (hX γ) fuel _ (hC h hh) H locs ls stk ws ⟨⟨z1, z2, t1.trans z3⟩, t2, hs, t3, hRr, hr⟩
  exact ih (ev_vec γ' 0 h'.2) (by rw [ev_vec_len]; exact hN h' hh') (by rw [← hvec]; exact hlx h.2 rfl) h' hh' γ' H' locs' ls' stk' ws' ha' hg' rfl
end EVK
theorem en_vs_args {N : Nat} {ad : Nat → Nat} : ∀ {av : List en_V} {as : List Value} (b : Nat) {i : Nat} {a : en_V}, en_vs N ad av as → av[i]? = some a → ∃ x, (b + i, x) ∈ lv_args b as ∧ en_v N ad a x
  | [], [], _, _, _, _, hi => by simp at hi
  | a0 :: av, x0 :: as, b, 0, a, h, hi => by
    rw [List.getElem?_cons_zero] at hi
    cases hi
    exact ⟨x0, List.mem_cons_self, h.1⟩
  | a0 :: av, x0 :: as, b, i + 1, a, h, hi => by
    rw [List.getElem?_cons_succ] at hi
    obtain ⟨x, h1, h2⟩ := en_vs_args (b + 1) h.2 hi
    refine ⟨x, ?_, h2⟩
    unfold lv_args
    rw [if_neg (by rw [en_v_cat h.1]; decide), show b + (i + 1) = b + 1 + i by omega]
    exact List.mem_cons_of_mem _ h1
  | [], _ :: _, _, _, _, h, _ => h.elim
  | _ :: _, [], _, _, _, h, _ => h.elim
theorem en_vs_sl {N : Nat} {ad : Nat → Nat} : ∀ {av : List en_V} {as : List Value}, en_vs N ad av as → (lg_sl as).length = as.length
  | [], [], _ => rfl
  | _ :: _, x :: xs, h => by
    have e : lg_sl (x :: xs) = (if x.category = 2 then [.val x, .second] else [.val x]) ++ lg_sl xs := rfl
    rw [e, if_neg (by rw [en_v_cat h.1]; decide), List.length_append, en_vs_sl h.2]
    simp [Nat.add_comm]
  | [], _ :: _, h => h.elim
  | _ :: _, [], h => h.elim
def ev_L0 (av : List en_V) (ml : Nat) : List ev_l := av.map (fun a => some (a, none)) ++ List.replicate (ml - av.length) none
theorem ev_L0_ok {N : Nat} {ad : Nat → Nat} {γ : Nat → Int} {av : List en_V} {as : List Value} {ml : Nat} (h : en_vs N ad av as) (hm : av.length ≤ ml) : (((lg_sl as ++ List.replicate (ml - (lg_sl as).length) Slot.unset).toArray).size = ml ∧ lv_wf ((lg_sl as ++ List.replicate (ml - (lg_sl as).length) Slot.unset).toArray) ∧ (ev_L0 av ml).length = ml) ∧ ev_lo N ad γ (ev_L0 av ml) ((lg_sl as ++ List.replicate (ml - (lg_sl as).length) Slot.unset).toArray) := by
  have hl := lv_entry as (n := ml) (by rw [en_vs_sl h, ← en_vs_len h]; exact hm)
  refine ⟨⟨hl.1, hl.2.1, by unfold ev_L0; rw [List.length_append, List.length_map, List.length_replicate]; omega⟩, fun i q hi => ?_⟩
  obtain ⟨hia, hg⟩ : av[i]? = some q.1 ∧ q.2 = none := by
    unfold ev_L0 at hi
    by_cases hb : i < (av.map (fun a => (some (a, none) : ev_l))).length
    · rw [List.getElem?_append_left hb, List.getElem?_map] at hi
      cases hz : av[i]? with
      | none => rw [hz] at hi; cases hi
      | some b => rw [hz] at hi; cases hi; exact ⟨rfl, rfl⟩
    · rw [List.getElem?_append_right (by omega)] at hi
      have := List.mem_of_getElem? hi
      cases (List.mem_replicate.mp this).2
  obtain ⟨x, h1, h2⟩ := en_vs_args 0 h hia
  rw [Nat.zero_add] at h1
  exact ⟨x, hl.2.2 _ h1, h2, by rw [hg]; trivial⟩
def ek_start (κ : ek) (ml : Nat) : ev_S := (0, ev_L0 κ.2.1 ml, [], ek_pre κ, [])
/-- a contract out of a walk of its body that begins with the contract's start -/
theorem ek_ok_of {l : Launch} {T : en_T} {I : va_W → Prop} {κ : ek} {r : MethodName × ByteArray × Nat × Option FieldType} {o : Nat} (hr : en_ms[κ.1]? = some r) (ho : en_mo[κ.1]? = some o) (hp : Jvm.plainName r.1.cls = true) (hm : κ.2.1.length ≤ r.2.2.1) (hg : (ek_pre κ).all (fun f => f.2.2.isNone) = true)
    (body : ∀ (p : Program) (e : Env) (s : State) (m : MethodId) (args : Array Value) (below : List Frame) (meth : Method) (c : Code) (D : va_G) (tys : List (ClassId × FieldType)) (aK aV b0 : Nat) (ad : Nat → Nat) (w0 : va_W), ev_cx p s m args meth c r.2.1 r.2.2.1 o D tys aK aV b0 → meth.sig.returnType = r.2.2.2 →
      ev_go p l e (ek_rm κ) s m args below meth c (MQ below (ek_qc D tys T I b0 ad w0 κ r.2.2.2.isSome) args s 0 0 (fun q => b0 ≤ q)) D tys T I b0 r.2.2.1 ad w0 (ek_wr κ) (fun _ => 0) (ek_start κ r.2.2.1)) : ek_ok l T I κ := by
  intro r' hr' D tys aK aV b0 ad w0 as hargs hw hI hpre
  rw [hr] at hr'
  cases hr'
  refine Met.ofW (cc := r.2.1) (maxL := r.2.2.1) (ret := r.2.2.2) hp rfl ?_
  intro p e s m args below meth c s₁ B hml hv
  obtain ⟨rfl, hsz, hP, hD, hKs, hX⟩ := hv
  have hts := atoms_spec (ws := Cond.code r.1 r.2.1 r.2.2.1 r.2.2.2 :: en_ws) B.pre
  have hown : s.vm.findClass (en_nm o) = some m.cls := by rw [en_mo_ok hr ho]; exact findClass_of_methodNamed B.named
  have C : ev_cx p s m as.toArray meth c r.2.1 r.2.2.1 o D tys aK aV b0 := ⟨B.exec, B.bytes, hml, hown, fun w hw => hts w (List.mem_cons_of_mem _ hw), hKs, hsz, hX, B.notSynchronized⟩
  rw [lg_entry_eq]
  obtain ⟨h1, h2⟩ := ev_L0_ok (γ := fun _ => 0) hargs hm
  refine body p e s m as.toArray below meth c D tys aK aV b0 ad w0 C B.returns s.heap [] _ [] w0 ⟨h1, h2, trivial, fun f hf => ?_, fun r hr => absurd hr List.not_mem_nil, hw, hI, hP, hD, va_S.rf, ev_fr.rf _ _⟩
  obtain ⟨x, h3, h4⟩ := ev_ff_use (γ := fun _ => 0) (hpre f hf)
  have h5 := List.all_eq_true.mp hg f hf
  simp only [Option.isNone_iff_eq_none] at h5
  exact ⟨x, h3, h4, by rw [h5]; trivial⟩
def ek_good (T : en_T) (sp : List (Nat × Nat)) (κ : ek) (K : List ek) (SP : List (Nat × List (Nat × List Int))) (HS : List (ev_S × List ev_m)) (N fuel : Nat) : Bool := match en_ms[κ.1]? with
  | some r => match en_mo[κ.1]? with
    | some o => Jvm.plainName r.1.cls && (decide (κ.2.1.length ≤ r.2.2.1) && ((ek_pre κ).all (fun f => f.2.2.isNone) && (HS.all (fun h => h.2.length == N && (h.2.all (ev_mk T h.1.2.1) && (ev_ng h.1.2.1 h.1.2.2.2.1 && ev_chk o r.2.1 T sp (ek_wr κ) K (ek_fr κ, ek_lo κ) r.2.2.2 (ek_out κ) SP HS [] (some h.2) fuel (h.1.1, (ev_tgs 0 h.2 h.1.2.1 h.1.2.2.2.1).1, h.1.2.2.1, (ev_tgs 0 h.2 h.1.2.1 h.1.2.2.2.1).2, h.1.2.2.2.2)))) && ev_chk o r.2.1 T sp (ek_wr κ) K (ek_fr κ, ek_lo κ) r.2.2.2 (ek_out κ) SP HS [] none fuel (ek_start κ r.2.2.1))))
    | none => false
  | none => false
theorem ek_good_ok {l : Launch} {T : en_T} {I : va_W → Prop} {sp : List (Nat × Nat)} {κ : ek} {K : List ek} {SP : List (Nat × List (Nat × List Int))} {HS : List (ev_S × List ev_m)} {N fuel : Nat} (hI0 : ev_hI I sp) (hK : ∀ κ' ∈ K, ek_ok l T I κ') (h : ek_good T sp κ K SP HS N fuel = true) : ek_ok l T I κ := by
  unfold ek_good at h
  split at h
  · rename_i r hr
    split at h
    · rename_i o ho
      simp only [Bool.and_eq_true, decide_eq_true_eq] at h
      obtain ⟨h1, h2, h3, h4, h5⟩ := h
      have hh : ∀ h ∈ HS, h.2.length = N ∧ h.2.all (ev_mk T h.1.2.1) = true ∧ ev_ng h.1.2.1 h.1.2.2.2.1 = true ∧ ev_chk o r.2.1 T sp (ek_wr κ) K (ek_fr κ, ek_lo κ) r.2.2.2 (ek_out κ) SP HS [] (some h.2) fuel (h.1.1, (ev_tgs 0 h.2 h.1.2.1 h.1.2.2.2.1).1, h.1.2.2.1, (ev_tgs 0 h.2 h.1.2.1 h.1.2.2.2.1).2, h.1.2.2.2.2) = true := fun h hm => by
        have h6 := List.all_eq_true.mp h4 h hm
        rw [Bool.and_eq_true, Bool.and_eq_true, Bool.and_eq_true, beq_iff_eq] at h6
        exact h6
      refine ek_ok_of hr ho h1 h2 h3 (fun p e s m args below meth c D tys aK aV b0 ad w0 C hret => ?_)
      refine ev_chk_ok (R := ek_rm κ) C hI0 hK ⟨rfl, rfl⟩ hret rfl rfl (cur := none) (fun h hm γ' H locs ls stk ws ha hg _ => ?_) (fun h hm => (hh h hm).2.1) (fun x hx => absurd hx List.not_mem_nil) fuel _ h5
      exact ev_heads (R := ek_rm κ) (xs := []) C hI0 hK ⟨rfl, rfl⟩ hret rfl rfl (fun h hm => (hh h hm).1) (fun h hm => (hh h hm).2.1) (fun h hm => (hh h hm).2.2.1) (fun h hm => (hh h hm).2.2.2) (fun _ x hx => absurd hx List.not_mem_nil) _ (by rw [ev_vec_len]; exact (hh h hm).1) h hm γ' H locs ls stk ws ha hg rfl
    · cases h
  · cases h
def tQ_9 : List en_V := [.inl (0, 65535), .inl (0, 9999), .inl (0, 20), .inl (0, 15), .inl (0, 9999), .inl ((-2147483648), 2147483647), .inr 87, .inr 88, .inr 89, .inr 90, .inr 91, .inr 92, .inr 93, .inr 94, .inr 95, .inr 96, .inr 97, .inr 98, .inl (0, 260), .inl (0, 240), .inl (0, 240), .inl ((-2147483648), 2147483647), .inl ((-2147483648), 2147483647), .inl ((-2147483648), 2147483647), .inl ((-2147483648), 2147483647), .inl ((-2147483648), 2147483647), .inl ((-2147483648), 2147483647), .inl (0, 16), .inr 99, .inr 100, .inr 101, .inr 102, .inr 103, .inr 104, .inr 105, .inr 106, .inr 107, .inr 108, .inr 109, .inr 110, .inr 111, .inl (0, 20), .inr 112, .inr 113, .inr 114, .inr 115, .inr 116, .inr 117, .inr 118, .inr 119, .inr 120, .inr 121, .inr 122, .inr 123, .inr 124, .inr 125, .inr 126, .inr 127, .inr 128, .inr 129, .inr 130, .inr 131, .inr 132, .inl ((-2147483648), 2147483647), .inl ((-2147483648), 2147483647), .inl ((-2147483648), 2147483647), .inl ((-2147483648), 2147483647), .inl ((-2147483648), 2147483647), .inl ((-2147483648), 2147483647), .inl (0, 15), .inl (0, 1), .inr 133, .inl ((-2147483648), 2147483647), .inr 134, .inr 135, .inl (0, 1), .inr 136, .inr 137, .inr 138, .inr 139, .inr 140, .inr 141, .inr 142, .inr 143, .inr 144, .inr 145, .inr 146, .inr 147, .inl (0, 1), .inl ((-2147483648), 2147483647), .inl (0, 15), .inl (0, 9999), .inl (0, 65535), .inr 148, .inr 149, .inr 150]
def tQ : en_T := [.inr (8, [.inr 3, .inr 5, .inr 47, .inr 59, .inr 67, .inr 73, .inr 80, .inr 84, .inl (0, 1), .inl (0, 1), .inl (0, 1)]), .inr (7, [.inr 4, .inl (0, 260), .inl (0, 260), .inl ((-2147483648), 2147483647), .inl ((-2147483648), 2147483647)]), .inl (0, 260, 0, 255), .inr (1, [.inr 6, .inr 18, .inr 26, .inr 30, .inr 34, .inr 41, .inr 42, .inr 43, .inr 44, .inr 45, .inr 46, .inl (0, 2000)]), .inr (3, [.inr 7, .inr 8, .inr 9, .inr 10, .inr 11, .inr 12, .inr 13, .inr 14, .inr 15, .inr 16, .inr 17, .inl (0, 20), .inl ((-2147483648), 2147483647)]), .inl (0, 20, 0, 3), .inl (0, 20, (-2147483648), 2147483647), .inl (0, 20, 0, 4), .inl (0, 20, (-1), 7), .inl (0, 20, (-1), 7), .inl (0, 20, (-1), 7), .inl (0, 20, (-2147483648), 2147483647), .inl (0, 20, (-1), 19), .inl (0, 20, (-1), 19), .inl (0, 8, (-1), 19), .inl (0, 20, (-2147483648), 2147483647), .inr (0, [.inr 19, .inr 20, .inr 21, .inr 22, .inr 23, .inr 24, .inr 25, .inl (0, 16), .inl (0, 240)]), .inl (0, 16, (-2147483648), 2147483647), .inl (0, 17, 0, 240), .inl (0, 16, 0, 240), .inl (0, 240, (-2147483648), 2147483647), .inl (0, 240, (-2147483648), 2147483647), .inl (0, 7, (-2147483648), 2147483647), .inl (0, 64, (-2147483648), 2147483647), .inr (6, [.inr 27, .inr 28, .inr 29, .inl (0, 15), .inl (0, 9999), .inl (0, 65535)]), .inl (0, 8, (-2147483648), 2147483647), .inl (0, 64, (-2147483648), 2147483647), .inl (0, 20, (-1), 15), .inr (6, [.inr 31, .inr 32, .inr 33, .inl (0, 15), .inl (0, 9999), .inl (0, 65535)]), .inl (0, 8, (-2147483648), 2147483647), .inl (0, 64, (-2147483648), 2147483647), .inl (0, 20, (-1), 15), .inr (4, [.inr 35, .inr 36, .inr 37, .inr 38, .inr 39, .inr 40]), .inl (0, 6, (-2147483648), 2147483647), .inl (0, 20, (-2147483648), 2147483647), .inl (0, 20, (-2147483648), 2147483647), .inl (0, 20, (-2147483648), 2147483647), .inl (0, 20, (-2147483648), 2147483647), .inl (0, 80, (-1), 19), .inl (0, 20, (-2147483648), 2147483647), .inl (0, 20, (-2147483648), 2147483647), .inl (1, 20, 0, 1), .inl (0, 80, (-2147483648), 2147483647), .inl (0, 20, 0, 19), .inl (0, 20, 0, 19), .inr (3, [.inr 48, .inr 49, .inr 50, .inr 51, .inr 52, .inr 53, .inr 54, .inr 55, .inr 56, .inr 57, .inr 58, .inl (0, 20), .inl ((-2147483648), 2147483647)]), .inl (0, 20, 0, 3), .inl (0, 20, (-2147483648), 2147483647), .inl (0, 20, 0, 4), .inl (0, 20, (-1), 7), .inl (0, 20, (-1), 7), .inl (0, 20, (-1), 7), .inl (0, 20, (-2147483648), 2147483647), .inl (0, 20, (-1), 19), .inl (0, 20, (-1), 19), .inl (0, 8, (-1), 19), .inl (0, 20, (-2147483648), 2147483647), .inr (0, [.inr 60, .inr 61, .inr 62, .inr 63, .inr 64, .inr 65, .inr 66, .inl (0, 16), .inl (0, 240)]), .inl (0, 16, (-2147483648), 2147483647), .inl (0, 17, 0, 240), .inl (0, 16, 0, 240), .inl (0, 240, (-2147483648), 2147483647), .inl (0, 240, (-2147483648), 2147483647), .inl (0, 7, (-2147483648), 2147483647), .inl (0, 64, (-2147483648), 2147483647), .inr (2, [.inr 68, .inr 72]), .inr (6, [.inr 69, .inr 70, .inr 71, .inl (0, 15), .inl (0, 9999), .inl (0, 65535)]), .inl (0, 8, (-2147483648), 2147483647), .inl (0, 64, (-2147483648), 2147483647), .inl (0, 20, (-1), 15), .inl (0, 20, (-2147483648), 2147483647), .inr (4, [.inr 74, .inr 75, .inr 76, .inr 77, .inr 78, .inr 79]), .inl (0, 6, (-2147483648), 2147483647), .inl (0, 20, (-2147483648), 2147483647), .inl (0, 20, (-2147483648), 2147483647), .inl (0, 20, (-2147483648), 2147483647), .inl (0, 20, (-2147483648), 2147483647), .inl (0, 80, (-1), 19), .inr (6, [.inr 81, .inr 82, .inr 83, .inl (0, 15), .inl (0, 9999), .inl (0, 65535)]), .inl (0, 8, (-2147483648), 2147483647), .inl (0, 64, (-2147483648), 2147483647), .inl (0, 20, (-1), 15), .inr (5, [.inr 151, .inr 85, .inl (0, 9999)]), .inl (0, 2, 0, 8), .inr (9, tQ_9), .inl (0, 8, (-2147483648), 2147483647), .inl (0, 64, (-2147483648), 2147483647), .inl (0, 20, (-1), 15), .inl (0, 20, 0, 3), .inl (0, 20, (-2147483648), 2147483647), .inl (0, 20, 0, 7), .inl (0, 20, 0, 7), .inl (0, 20, 0, 7), .inl (0, 20, (-1), 4), .inl (0, 20, (-1), 7), .inl (0, 20, (-2147483648), 2147483647), .inl (2, 260, (-128), 127), .inl (0, 260, (-2147483648), 2147483647), .inl (0, 260, (-2147483648), 2147483647), .inl (0, 16, (-2147483648), 2147483647), .inl (0, 16, 0, 260), .inl (0, 16, 0, 260), .inl (0, 16, 0, 260), .inl (0, 260, (-2147483648), 2147483647), .inl (0, 16, (-2147483648), 2147483647), .inl (0, 16, 0, 260), .inl (0, 16, 0, 260), .inl (0, 16, 0, 260), .inl (0, 260, (-2147483648), 2147483647), .inl (0, 7, (-2147483648), 2147483647), .inl (0, 20, 0, 3), .inl (0, 20, (-2147483648), 2147483647), .inl (0, 20, 0, 7), .inl (0, 20, 0, 7), .inl (0, 20, 0, 7), .inl (0, 20, (-1), 4), .inl (0, 20, (-1), 7), .inl (0, 20, (-2147483648), 2147483647), .inl (0, 20, (-2147483648), 2147483647), .inl (0, 20, (-2147483648), 2147483647), .inl (0, 20, (-2147483648), 2147483647), .inl (0, 20, (-2147483648), 2147483647), .inl (0, 20, (-2147483648), 2147483647), .inl (0, 20, (-2147483648), 2147483647), .inl (0, 80, (-1), 19), .inl (0, 80, (-2147483648), 2147483647), .inl (1, 20, 0, 1), .inl (0, 64, (-2147483648), 2147483647), .inl (0, 64, (-2147483648), 2147483647), .inl (0, 20, (-1), 15), .inl (0, 8, (-2147483648), 2147483647), .inl (0, 400, 0, 19), .inl (0, 20, (-2147483648), 2147483647), .inl (0, 20, 0, 19), .inl (0, 6, (-2147483648), 2147483647), .inl (0, 20, (-2147483648), 2147483647), .inl (0, 20, (-2147483648), 2147483647), .inl (0, 20, (-2147483648), 2147483647), .inl (0, 20, (-2147483648), 2147483647), .inl (0, 80, (-1), 19), .inl (0, 8, (-2147483648), 2147483647), .inl (0, 64, (-2147483648), 2147483647), .inl (0, 20, (-2147483648), 2147483647), .inl (0, 20, (-2147483648), 2147483647), .inl (0, 16, 0, 19), .inl (0, 2, 0, 8), .inl (0, 8, (-2147483648), 2147483647), .inl (0, 64, (-2147483648), 2147483647), .inl (0, 20, (-1), 15), .inl (3, 2, 150, 0), .inl (0, 8, 0, 19), .inl (0, 8, 0, 19)]
def sQ : List (Nat × Nat) := []
def iQ (_ : va_W) : Prop := True
theorem hIQ : ev_hI iQ sQ := fun _ _ _ _ _ _ => trivial
