theorem fb_tm {x y : Int32} (hy : 0 < y.toInt) : (x - x / y * y).toInt = x.toInt.tmod y.toInt := by
  have h1 := fb_rng x
  have h2 := fb_rng y
  have e := Int.mul_tdiv_add_tmod x.toInt y.toInt
  have hc : y.toInt * x.toInt.tdiv y.toInt = x.toInt.tdiv y.toInt * y.toInt := Int.mul_comm _ _
  rcases Int.lt_or_le x.toInt 0 with hx | hx
  · have g1 : -y.toInt < x.toInt.tmod y.toInt := Int.lt_tmod_of_pos x.toInt hy
    have g2 : x.toInt.tmod y.toInt ≤ 0 := by
      have h := Int.tmod_nonneg (a := -x.toInt) y.toInt (by omega)
      rw [Int.neg_tmod] at h
      omega
    have g3 : x.toInt.tdiv y.toInt ≤ 0 := by
      have h := Int.tdiv_nonneg (a := -x.toInt) (b := y.toInt) (by omega) (by omega)
      rw [Int.neg_tdiv] at h
      omega
    have g4 : x.toInt ≤ x.toInt.tdiv y.toInt := by
      have h : -(x.toInt.tdiv y.toInt) * 1 ≤ -(x.toInt.tdiv y.toInt) * y.toInt := Int.mul_le_mul_of_nonneg_left (by omega) (by omega)
      rw [Int.neg_mul, Int.neg_mul] at h
      omega
    have d : (x / y).toInt = x.toInt.tdiv y.toInt := by rw [Int32.toInt_div, fb_bmod (by omega) (by omega)]
    have d2 : (x / y * y).toInt = x.toInt.tdiv y.toInt * y.toInt := by rw [Int32.toInt_mul, d, fb_bmod (by omega) (by omega)]
    rw [fb_subI (by rw [d2]; omega) (by rw [d2]; omega), d2]
    omega
  · have g1 : x.toInt.tmod y.toInt < y.toInt := Int.tmod_lt_of_pos x.toInt hy
    have g2 : 0 ≤ x.toInt.tmod y.toInt := Int.tmod_nonneg y.toInt hx
    have g3 : 0 ≤ x.toInt.tdiv y.toInt := Int.tdiv_nonneg hx (by omega)
    have g4 : x.toInt.tdiv y.toInt ≤ x.toInt := by
      have h : x.toInt.tdiv y.toInt * 1 ≤ x.toInt.tdiv y.toInt * y.toInt := Int.mul_le_mul_of_nonneg_left (by omega) (by omega)
      omega
    have d : (x / y).toInt = x.toInt.tdiv y.toInt := by rw [Int32.toInt_div, fb_bmod (by omega) (by omega)]
    have d2 : (x / y * y).toInt = x.toInt.tdiv y.toInt * y.toInt := by rw [Int32.toInt_mul, d, fb_bmod (by omega) (by omega)]
    rw [fb_subI (by rw [d2]; omega) (by rw [d2]; omega), d2]
    omega
theorem fb_td {x y : Int32} (hy : 0 < y.toInt) : (x / y).toInt = x.toInt.tdiv y.toInt := by
  have h1 := fb_rng x
  have h2 := fb_rng y
  rcases Int.lt_or_le x.toInt 0 with hx | hx
  · have g3 : x.toInt.tdiv y.toInt ≤ 0 := by
      have h := Int.tdiv_nonneg (a := -x.toInt) (b := y.toInt) (by omega) (by omega)
      rw [Int.neg_tdiv] at h
      omega
    have g4 : x.toInt ≤ x.toInt.tdiv y.toInt := by
      have h := Int.tdiv_le_self (a := -x.toInt) y.toInt (by omega)
      rw [Int.neg_tdiv] at h
      omega
    rw [Int32.toInt_div, fb_bmod (by omega) (by omega)]
  · have g3 : 0 ≤ x.toInt.tdiv y.toInt := Int.tdiv_nonneg hx (by omega)
    have g4 : x.toInt.tdiv y.toInt ≤ x.toInt := Int.tdiv_le_self y.toInt hx
    rw [Int32.toInt_div, fb_bmod (by omega) (by omega)]
/-- remainder: bounds where the divisor is above 0 -/
def ev_irem (q r : Int × Int) : Int × Int := match decide (0 < r.1) with
  | true => ev_rem q r
  | false => en_full
theorem ev_irem_in {q r : Int × Int} {x y : Int32} (hx : en_in q x) (hy : en_in r y) : en_in (ev_irem q r) (x - x / y * y) := by
  unfold ev_irem
  split
  · rename_i h
    simp only [decide_eq_true_eq] at h
    obtain ⟨h1, h2⟩ := hx
    obtain ⟨h3, h4⟩ := hy
    have hp : 0 < y.toInt := by omega
    have e := fb_tm (x := x) hp
    have g1 : -y.toInt < x.toInt.tmod y.toInt := Int.lt_tmod_of_pos x.toInt hp
    have g2 : x.toInt.tmod y.toInt < y.toInt := Int.tmod_lt_of_pos x.toInt hp
    have g3 : 0 ≤ x.toInt → 0 ≤ x.toInt.tmod y.toInt := fun h => Int.tmod_nonneg y.toInt h
    have g4 : x.toInt ≤ 0 → x.toInt.tmod y.toInt ≤ 0 := fun h => by
      have h := Int.tmod_nonneg (a := -x.toInt) y.toInt (by omega)
      rw [Int.neg_tmod] at h
      omega
    unfold ev_rem
    constructor
    · dsimp only
      rw [e]
      split
      · exact g3 (by omega)
      · omega
    · dsimp only
      rw [e]
      split
      · exact g4 (by omega)
      · omega
  · exact en_full_in _
/-- quotient: by one number above 0 -/
def ev_idiv (q r : Int × Int) : Int × Int := match decide (0 < r.1) && decide (r.1 = r.2) with
  | true => (q.1.tdiv r.1, q.2.tdiv r.1)
  | false => en_full
theorem ev_td_mono {a b d : Int} (hd : 0 < d) (h : a ≤ b) : a.tdiv d ≤ b.tdiv d := by
  rcases Int.lt_or_le a 0 with ha | ha
  · rcases Int.lt_or_le b 0 with hb | hb
    · have h1 : (-b).tdiv d ≤ (-a).tdiv d := by
        rw [Int.tdiv_eq_ediv_of_nonneg (by omega), Int.tdiv_eq_ediv_of_nonneg (by omega)]
        exact Int.ediv_le_ediv hd (by omega)
      rw [Int.neg_tdiv, Int.neg_tdiv] at h1
      omega
    · have h1 := Int.tdiv_nonneg (a := -a) (b := d) (by omega) (by omega)
      have h2 := Int.tdiv_nonneg (a := b) (b := d) hb (by omega)
      rw [Int.neg_tdiv] at h1
      omega
  · rw [Int.tdiv_eq_ediv_of_nonneg ha, Int.tdiv_eq_ediv_of_nonneg (by omega)]
    exact Int.ediv_le_ediv hd h
theorem ev_idiv_in {q r : Int × Int} {x y : Int32} (hx : en_in q x) (hy : en_in r y) : en_in (ev_idiv q r) (x / y) := by
  unfold ev_idiv
  split
  · rename_i h
    simp only [Bool.and_eq_true, decide_eq_true_eq] at h
    obtain ⟨h1, h2⟩ := hx
    obtain ⟨h3, h4⟩ := hy
    have hp : 0 < y.toInt := by omega
    have e := fb_td (x := x) hp
    have ey : y.toInt = r.1 := by omega
    rw [ey] at e
    exact ⟨by dsimp only; rw [e]; exact ev_td_mono h.1 h1, by dsimp only; rw [e]; exact ev_td_mono h.1 h2⟩
  · exact en_full_in _
def ev_nz (r : Int × Int) : Bool := decide (0 < r.1) || decide (r.2 < 0)
theorem ev_nz_ok {r : Int × Int} {y : Int32} (h : ev_nz r = true) (hy : en_in r y) : ¬ y = 0 := by
  intro e
  subst e
  unfold ev_nz at h
  simp only [Bool.or_eq_true, decide_eq_true_eq] at h
  have z0 : (0 : Int32).toInt = 0 := rfl
  obtain ⟨h1, h2⟩ := hy
  omega
section EVM
variable {p : Program} {l : Launch} {e : Env} {R : Room} {s : State} {m : MethodId} {args : Array Value} {below : List Frame} {meth : Method} {c : Code} {Q : State → Prop} {cc : ByteArray} {D : va_G} {tys : List (ClassId × FieldType)} {T : en_T} {I : va_W → Prop} {aK aV b0 nL o : Nat} {ad : Nat → Nat} {w0 : va_W} {Wr : List (Nat × Nat)} {γ : Nat → Int}
variable {pc : Nat} {L : List ev_l} {S : List ev_s} {FS : List ev_f} {RS : List ev_r}
theorem ev_in_ok {q b : Int × Int} {tq : ev_t} {pc' : Nat} {x : Int32} {H : Heap} {locs : List Loc} {ls : Array Slot} {stk : List Value} {ws : va_W} (h : ev_at s D tys T I b0 nL ad w0 Wr γ L S FS RS H locs ls stk ws) (hx : en_in q x) (hb : en_in b x) (tx : ev_tag ls ws tq (.int x))
    (k : ∀ st ∈ ev_side .eq q b tq ev_nt pc' L S FS RS, ev_go p l e R s m args below meth c Q D tys T I b0 nL ad w0 Wr γ st) : W p l e R s m args below meth c H locs 0 0 Q (F0 m pc' ls stk) :=
  ev_side_ok (cd := .eq) (y := x) h hx hb tx ev_tag0 (show x.toInt = x.toInt from rfl) k
/-- a table of targets: one state for each number that may come, two for the rest -/
def ev_tsI (pc : Nat) (q : Int × Int) (tq : ev_t) (L : List ev_l) (S : List ev_s) (FS : List ev_f) (RS : List ev_r) : Int → List Int → List ev_S
  | _, [] => []
  | v, off :: offs => ev_side .eq q (v, v) tq ev_nt ((pc : Int) + off).toNat L S FS RS ++ ev_tsI pc q tq L S FS RS (v + 1) offs
def ev_tsw (pc : Nat) (d lo hi : Int) (offs : Array Int) (q : Int × Int) (tq : ev_t) (L : List ev_l) (S : List ev_s) (FS : List ev_f) (RS : List ev_r) : List ev_S :=
  (ev_side .eq q (-2147483648, lo - 1) tq ev_nt ((pc : Int) + d).toNat L S FS RS ++ ev_side .eq q (hi + 1, 2147483647) tq ev_nt ((pc : Int) + d).toNat L S FS RS) ++ ev_tsI pc q tq L S FS RS lo offs.toList
def ev_tsk (pc : Nat) (d lo hi : Int) (offs : Array Int) : Bool := decide ((offs.toList.length : Int) = hi - lo + 1) && (decide (0 ≤ (pc : Int) + d) && offs.toList.all (fun off => decide (0 ≤ (pc : Int) + off)))
theorem ev_tsI_mem {q : Int × Int} {tq : ev_t} {st : ev_S} {off : Int} : ∀ {offs : List Int} {v : Int} {n : Nat}, offs[n]? = some off → st ∈ ev_side .eq q (v + n, v + n) tq ev_nt ((pc : Int) + off).toNat L S FS RS → st ∈ ev_tsI pc q tq L S FS RS v offs
  | [], _, _, h, _ => by simp at h
  | o1 :: os, v, 0, h, hs => by
    rw [List.getElem?_cons_zero] at h
    cases h
    refine List.mem_append_left _ ?_
    simpa using hs
  | o1 :: os, v, n + 1, h, hs => by
    rw [List.getElem?_cons_succ] at h
    refine List.mem_append_right _ (ev_tsI_mem h ?_)
    have e1 : v + 1 + (n : Int) = v + ((n + 1 : Nat) : Int) := by omega
    rw [e1]
    exact hs
theorem fs_tsw (C : ev_cx p s m args meth c cc nL o D tys aK aV b0) {d lo hi : Int} {offs : Array Int} {len : Nat} {q : Int × Int} {tq : ev_t} (hk : ev_tsk pc d lo hi offs = true) (hd : decode cc pc = .ok (.tableswitch d lo hi offs, len))
    (k : ∀ st ∈ ev_tsw pc d lo hi offs q tq L S FS RS, ev_go p l e R s m args below meth c Q D tys T I b0 nL ad w0 Wr γ st) : ev_go p l e R s m args below meth c Q D tys T I b0 nL ad w0 Wr γ (pc, L, (.inl q, tq) :: S, FS, RS) := by
  intro H locs ls stk ws h
  dsimp only at h
  obtain ⟨h0, hl, hs, hr⟩ := h
  obtain ⟨x0, zs, rfl, ⟨x, rfl, hx⟩, tx, hs2⟩ := ev_stk_cons hs
  have hrg := fb_rng x
  unfold ev_tsk at hk
  simp only [Bool.and_eq_true, decide_eq_true_eq] at hk
  obtain ⟨k1, k2, k3⟩ := hk
  have hat : ev_at s D tys T I b0 nL ad w0 Wr γ L S FS RS H locs ls zs ws := ⟨h0, hl, hs2, hr⟩
  rcases Int.lt_or_le x.toInt lo with hlo | hlo
  · exact lv_tableOut (tgt := ((pc : Int) + d).toNat) C.1 C.2.1 hd (Or.inl hlo) (by omega) (ev_in_ok (b := (-2147483648, lo - 1)) hat hx ⟨by dsimp only; omega, by dsimp only; omega⟩ tx (fun st hst => k st (List.mem_append_left _ (List.mem_append_left _ hst))))
  · rcases Int.lt_or_le hi x.toInt with hhi | hhi
    · exact lv_tableOut (tgt := ((pc : Int) + d).toNat) C.1 C.2.1 hd (Or.inr hhi) (by omega) (ev_in_ok (b := (hi + 1, 2147483647)) hat hx ⟨by dsimp only; omega, by dsimp only; omega⟩ tx (fun st hst => k st (List.mem_append_left _ (List.mem_append_right _ hst))))
    · have hn : (x.toInt - lo).toNat < offs.toList.length := by omega
      have ho : offs.toList[(x.toInt - lo).toNat]? = some offs.toList[(x.toInt - lo).toNat] := List.getElem?_eq_getElem hn
      generalize offs.toList[(x.toInt - lo).toNat] = off at ho
      have h3 := List.all_eq_true.mp k3 off (List.mem_of_getElem? ho)
      simp only [decide_eq_true_eq] at h3
      refine lv_tableIn (tgt := ((pc : Int) + off).toNat) C.1 C.2.1 hd (by omega) (by omega) (off := off) (by rw [← Array.getElem?_toList]; exact ho) (by omega) ?_
      refine ev_in_ok (b := (lo + ((x.toInt - lo).toNat : Int), lo + ((x.toInt - lo).toNat : Int))) hat hx ⟨by dsimp only; omega, by dsimp only; omega⟩ tx (fun st hst => k st (List.mem_append_right _ (ev_tsI_mem ho hst)))
/-- pairs: one state for each number that may come, one for the rest -/
def ev_lki (pc : Nat) (q : Int × Int) (tq : ev_t) (L : List ev_l) (S : List ev_s) (FS : List ev_f) (RS : List ev_r) : List (Int × Int) → List ev_S
  | [] => []
  | u :: us => ev_side .eq q (u.1, u.1) tq ev_nt ((pc : Int) + u.2).toNat L S FS RS ++ ev_lki pc q tq L S FS RS us
def ev_lkd (q : Int × Int) (ps : List (Int × Int)) : Bool := decide (q.1 = q.2) && ps.any (fun u => decide (u.1 = q.1))
def ev_lsw (pc : Nat) (d : Int) (ps : List (Int × Int)) (q : Int × Int) (tq : ev_t) (L : List ev_l) (S : List ev_s) (FS : List ev_f) (RS : List ev_r) : List ev_S := match ev_lkd q ps with
  | true => ev_lki pc q tq L S FS RS ps
  | false => (((pc : Int) + d).toNat, L, S, FS, RS) :: ev_lki pc q tq L S FS RS ps
def ev_lkk (pc : Nat) (d : Int) (ps : Array (Int × Int)) : Bool := (ps.toList.zip (ps.toList.drop 1)).all (fun (a, next) => a.1 < next.1) && (decide (0 ≤ (pc : Int) + d) && ps.toList.all (fun u => decide (0 ≤ (pc : Int) + u.2)))
theorem ev_lko (d x : Int) : ∀ ps : List (Int × Int), (Op.lookupswitch.offset ps d x = d ∧ ∀ u ∈ ps, u.1 ≠ x) ∨ ∃ u ∈ ps, u.1 = x ∧ Op.lookupswitch.offset ps d x = u.2
  | [] => Or.inl ⟨rfl, fun u hu => absurd hu List.not_mem_nil⟩
  | (a, o1) :: us => by
    rw [Op.lookupswitch.offset_cons]
    by_cases h : a = x
    · rw [if_pos h]
      exact Or.inr ⟨(a, o1), List.mem_cons_self, h, rfl⟩
    · rw [if_neg h]
      rcases ev_lko d x us with ⟨h1, h2⟩ | ⟨u, h1, h2, h3⟩
      · refine Or.inl ⟨h1, fun u hu => ?_⟩
        rcases List.mem_cons.mp hu with rfl | hu
        · exact h
        · exact h2 u hu
      · exact Or.inr ⟨u, List.mem_cons_of_mem _ h1, h2, h3⟩
theorem ev_lki_mem {q : Int × Int} {tq : ev_t} {st : ev_S} {u : Int × Int} : ∀ {us : List (Int × Int)}, u ∈ us → st ∈ ev_side .eq q (u.1, u.1) tq ev_nt ((pc : Int) + u.2).toNat L S FS RS → st ∈ ev_lki pc q tq L S FS RS us
  | [], h, _ => absurd h List.not_mem_nil
  | w :: us, h, hs => by
    rcases List.mem_cons.mp h with rfl | h
    · exact List.mem_append_left _ hs
    · exact List.mem_append_right _ (ev_lki_mem h hs)
theorem fs_lsw (C : ev_cx p s m args meth c cc nL o D tys aK aV b0) {d : Int} {ps : Array (Int × Int)} {len : Nat} {q : Int × Int} {tq : ev_t} (hk : ev_lkk pc d ps = true) (hd : decode cc pc = .ok (.lookupswitch d ps, len))
    (k : ∀ st ∈ ev_lsw pc d ps.toList q tq L S FS RS, ev_go p l e R s m args below meth c Q D tys T I b0 nL ad w0 Wr γ st) : ev_go p l e R s m args below meth c Q D tys T I b0 nL ad w0 Wr γ (pc, L, (.inl q, tq) :: S, FS, RS) := by
  intro H locs ls stk ws h
  dsimp only at h
  obtain ⟨h0, hl, hs, hr⟩ := h
  obtain ⟨x0, zs, rfl, ⟨x, rfl, hx⟩, tx, hs2⟩ := ev_stk_cons hs
  unfold ev_lkk at hk
  rw [Bool.and_eq_true, Bool.and_eq_true] at hk
  obtain ⟨k1, k2, k3⟩ := hk
  simp only [decide_eq_true_eq] at k2
  have hat : ev_at s D tys T I b0 nL ad w0 Wr γ L S FS RS H locs ls zs ws := ⟨h0, hl, hs2, hr⟩
  rcases ev_lko d x.toInt ps.toList with ⟨h1, h2⟩ | ⟨u, h1, h2, h3⟩
  · refine lv_lookup (tgt := ((pc : Int) + d).toNat) C.1 C.2.1 hd k1 h1 (by omega) ?_
    refine k (((pc : Int) + d).toNat, L, S, FS, RS) ?_ H locs ls zs ws hat
    unfold ev_lsw
    split
    · rename_i hb
      unfold ev_lkd at hb
      rw [Bool.and_eq_true] at hb
      obtain ⟨w, g1, g2⟩ := List.any_eq_true.mp hb.2
      have g3 := hb.1
      simp only [decide_eq_true_eq] at g2 g3
      exact absurd (by obtain ⟨a1, a2⟩ := hx; omega) (h2 w g1)
    · exact List.mem_cons_self
  · have h4 := List.all_eq_true.mp k3 u h1
    simp only [decide_eq_true_eq] at h4
    refine lv_lookup (tgt := ((pc : Int) + u.2).toNat) C.1 C.2.1 hd k1 h3 (by omega) ?_
    refine ev_in_ok (b := (u.1, u.1)) hat hx ⟨by dsimp only; omega, by dsimp only; omega⟩ tx (fun st hst => k st ?_)
    unfold ev_lsw
    split
    · exact ev_lki_mem h1 hst
    · exact List.mem_cons_of_mem _ (ev_lki_mem h1 hst)
theorem en_mt_16 : en_ms[16]? = some (Lib.Math.min.name, Lib.Math.min.code, 2, some .int) := rfl
theorem en_mt_30 : en_ms[30]? = some (Lib.Math.max.name, Lib.Math.max.code, 2, some .int) := rfl
theorem en_codeW {mi : Nat} {r : MethodName × ByteArray × Nat × Option FieldType} (hr : en_ms[mi]? = some r) : Cond.code r.1 r.2.1 r.2.2.1 r.2.2.2 ∈ en_ws := (en_codeG hr _ List.mem_cons_self).1
theorem fs_min (C : ev_cx p s m args meth c cc nL o D tys aK aV b0) {i : Nat} {q r : Int × Int} {tq tr : ev_t} (hf : en_find o i en_cl = some (1, 16, 2)) (hfr : 1 ≤ R.frames) (hlo : S.length + 13 ≤ R.locals) (hd : decode cc pc = .ok (.invokestatic i, 3))
    (k : ev_go p l e R s m args below meth c Q D tys T I b0 nL ad w0 Wr γ (pc + 3, L, (.inl (ev_min q.1 r.1, ev_min q.2 r.2), ev_nt) :: S, FS, RS)) : ev_go p l e R s m args below meth c Q D tys T I b0 nL ad w0 Wr γ (pc, L, (.inl r, tr) :: (.inl q, tq) :: S, FS, RS) := by
  intro H locs ls stk ws h
  dsimp only at h
  obtain ⟨h0, hl, hs, hr⟩ := h
  obtain ⟨y0, ys, rfl, ⟨y, rfl, hy⟩, -, hs1⟩ := ev_stk_cons hs
  obtain ⟨x0, zs, rfl, ⟨x, rfl, hx⟩, -, hs2⟩ := ev_stk_cons hs1
  have hts := C.2.2.2.2.1
  have hww := en_clW hf en_mt_16
  refine va_mmin C.1 C.2.1 (C.2.2.1.trans h0.1.symm) C.2.2.2.1 (hts _ (en_ws_in (hww (.methodLink (en_nm o) i Lib.Math.min.name) (by simp)) rfl)) (hts _ (en_ws_in (hww (.static Lib.Math.min.name) (by simp)) rfl)) (hts _ (en_ws_in (hww (.initialized Lib.Math.min.name.cls) (by simp)) rfl)) (hts _ (en_codeW en_mt_16)) hfr (by rw [ev_stk_len hs2]; exact hlo) (Nat.zero_le _) (Nat.zero_le _) hd ?_
  refine k H locs ls _ ws ⟨h0, hl, ⟨⟨⟨_, rfl, ?_⟩, ev_tag0⟩, hs2⟩, hr⟩
  obtain ⟨a1, a2⟩ := hx
  obtain ⟨a3, a4⟩ := hy
  unfold ev_min
  by_cases hlt : y < x
  · rw [if_pos hlt]
    rw [fa_lt] at hlt
    constructor <;> dsimp only <;> split <;> omega
  · rw [if_neg hlt]
    rw [fa_lt] at hlt
    constructor <;> dsimp only <;> split <;> omega
theorem fs_max (C : ev_cx p s m args meth c cc nL o D tys aK aV b0) {i : Nat} {q r : Int × Int} {tq tr : ev_t} (hf : en_find o i en_cl = some (1, 30, 2)) (hfr : 1 ≤ R.frames) (hlo : S.length + 13 ≤ R.locals) (hd : decode cc pc = .ok (.invokestatic i, 3))
    (k : ev_go p l e R s m args below meth c Q D tys T I b0 nL ad w0 Wr γ (pc + 3, L, (.inl (ev_max q.1 r.1, ev_max q.2 r.2), ev_nt) :: S, FS, RS)) : ev_go p l e R s m args below meth c Q D tys T I b0 nL ad w0 Wr γ (pc, L, (.inl r, tr) :: (.inl q, tq) :: S, FS, RS) := by
  intro H locs ls stk ws h
  dsimp only at h
  obtain ⟨h0, hl, hs, hr⟩ := h
  obtain ⟨y0, ys, rfl, ⟨y, rfl, hy⟩, -, hs1⟩ := ev_stk_cons hs
  obtain ⟨x0, zs, rfl, ⟨x, rfl, hx⟩, -, hs2⟩ := ev_stk_cons hs1
  have hts := C.2.2.2.2.1
  have hww := en_clW hf en_mt_30
  refine va_mmax C.1 C.2.1 (C.2.2.1.trans h0.1.symm) C.2.2.2.1 (hts _ (en_ws_in (hww (.methodLink (en_nm o) i Lib.Math.max.name) (by simp)) rfl)) (hts _ (en_ws_in (hww (.static Lib.Math.max.name) (by simp)) rfl)) (hts _ (en_ws_in (hww (.initialized Lib.Math.max.name.cls) (by simp)) rfl)) (hts _ (en_codeW en_mt_30)) hfr (by rw [ev_stk_len hs2]; exact hlo) (Nat.zero_le _) (Nat.zero_le _) hd ?_
  refine k H locs ls _ ws ⟨h0, hl, ⟨⟨⟨_, rfl, ?_⟩, ev_tag0⟩, hs2⟩, hr⟩
  obtain ⟨a1, a2⟩ := hx
  obtain ⟨a3, a4⟩ := hy
  unfold ev_max
  by_cases hlt : x < y
  · rw [if_pos hlt]
    rw [fa_lt] at hlt
    constructor <;> dsimp only <;> split <;> omega
  · rw [if_neg hlt]
    rw [fa_lt] at hlt
    constructor <;> dsimp only <;> split <;> omega
end EVM
