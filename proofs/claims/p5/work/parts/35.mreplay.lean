theorem ev_go_name {p : Program} {l : Launch} {e : Env} {R : Room} {s : State} {m : MethodId} {args : Array Value} {below : List Frame} {meth : Method} {c : Code} {Q : State → Prop} {D : va_G} {tys : List (ClassId × FieldType)} {T : en_T} {I : va_W → Prop} {b0 nL : Nat} {ad : Nat → Nat} {w0 : va_W} {Wr : List (Nat × Nat)} {γ : Nat → Int} {pc : Nat} {L : List ev_l} {S : List ev_s} {FS : List ev_f} {RS : List ev_r} {q : Int × Int} {t : ev_t} (k : ∀ v : Int, q.1 ≤ v → v ≤ q.2 → ev_go p l e R s m args below meth c Q D tys T I b0 nL ad w0 Wr γ (pc, L, (.inl (v, v), ev_nt) :: S, FS, RS)) : ev_go p l e R s m args below meth c Q D tys T I b0 nL ad w0 Wr γ (pc, L, (.inl q, t) :: S, FS, RS) := by
  intro H locs ls stk ws ha
  dsimp only at ha
  obtain ⟨hz, hl, hs, hr⟩ := ha
  obtain ⟨x0, ys, rfl, ⟨x, rfl, hx⟩, -, hs1⟩ := ev_stk_cons hs
  exact k x.toInt hx.1 hx.2 H locs ls (.int x :: ys) ws ⟨hz, hl, ⟨⟨⟨x, rfl, en_in_self x⟩, ev_tag0⟩, hs1⟩, hr⟩
def nW (st : Nat → Int) : Nat → Int
  | 0 => 0
  | n + 1 => nW st n + (if st n = 0 then 0 else 1)
theorem nW_nn (st : Nat → Int) : ∀ n : Nat, 0 ≤ nW st n ∧ nW st n ≤ n
  | 0 => ⟨Int.le_refl 0, Int.le_refl 0⟩
  | n + 1 => by
    have h := nW_nn st n
    unfold nW
    split <;> omega
theorem nW_out (st : Nat → Int) (i : Nat) : ∀ n : Nat, n ≤ i → nW (uN i 0 st) n = nW st n
  | 0, _ => rfl
  | n + 1, h => by
    unfold nW
    rw [nW_out st i n (by omega), uN_n _ _ (by omega)]
theorem nW_upd (st : Nat → Int) (i : Nat) (hi : st i ≠ 0) : ∀ n : Nat, i < n → nW (uN i 0 st) n = nW st n - 1
  | 0, h => by omega
  | n + 1, h => by
    unfold nW
    rcases Nat.lt_or_ge i n with h1 | h1
    · rw [nW_upd st i hi n h1, uN_n _ _ (by omega)]
      omega
    · have e : n = i := by omega
      subst e
      rw [nW_out st n n (Nat.le_refl _), uN_s, if_pos rfl, if_neg hi]
      omega
def sT9 : List (Nat × Nat) := [(84, 72), (118, 999)]
def lV (c : Nat) (st : Nat → Int) (ws : va_W) : Prop := gI ws 84 72 = (c : Int) ∧ gA ws 118 = st
theorem lV_hI {c : Nat} {st : Nat → Int} : ev_hI (lV c st) sT9 := fun W1 w w' h1 h2 h => ⟨(gI_fr h2 (fun h => h1 _ h (by simp [sT9]))).trans h.1, (gA_fr h2 (fun h => h1 _ h (by simp [sT9]))).trans h.2⟩
def kLi : ek := (192, [.inr 86, .inl (0, 19)], [], [(84, 72), (131, 999)], [(none, [])], 0, 0)
def kLt : ek := (193, [.inr 86, .inl (0, 19)], [], [(84, 72), (131, 999)], [(none, [])], 3, 68)
def kRa : ek := (191, [.inr 86, .inl (0, 19)], [], [(84, 65), (84, 67), (84, 72), (118, 999), (123, 999), (126, 999), (128, 999), (131, 999)], [(none, [])], 4, 91)
theorem li (l : Launch) {cn : Nat} {st : Nat → Int} (hc : cn < 400) : hk_ok l tQ (lV cn st) (fun _ _ ws => lV (cn + 1) st ws) kLi := by
  refine hk_ok_of (o := 9) (r := (yX9_lists, prog_11_method_60_code, 2, none)) rfl rfl (by decide +kernel) (by decide) rfl (fun p e s m args below meth c D tys aK aV b0 ad w0 C hret => ?_)
  refine ev_go_fact 84 72 (0, 399) rfl rfl (fun w hw h => by rw [h.1]; exact ⟨by dsimp only; omega, by dsimp only; omega⟩) ?_
  refine hv_go C lV_hI [(84, 72), (131, 999)] [] (0, 0) [] [(17, [none, none], [(.inl (1, 400), (2, 84, 72, 1)), (.inr 86, ev_nt)], [], [])] 80 ⟨rfl, rfl⟩ (by decide +kernel) trivial ⟨?_, trivial⟩
  refine hs_put C (I' := lV (cn + 1) st) (i := 387) (ci := 9) (f := 72) (j := 84) (b := (-2147483648, 2147483647)) ?_ (by decide +kernel) rfl (by decide) rfl rfl (by decide) (by decide) (by decide) (by decide) (by decide +kernel) ?_
  · intro ls w w' z hw hl hF hI hz tz hp hf
    exact ⟨by rw [hp.1, tag_f tz, hI.1]; omega, by rw [hp.2.2, hI.2]⟩
  · exact hs_vret C (i := 0) (fun ls w _ _ _ hI => hI) hret rfl rfl rfl rfl (by decide +kernel)
theorem lt (l : Launch) {cn : Nat} {st : Nat → Int} (hc : cn ≤ 380) : hk_ok l tQ (lV cn st) (fun _ _ ws => ∃ c2 : Nat, c2 ≤ cn + 19 ∧ lV c2 st ws) kLt := by
  refine hk_ok_of (o := 9) (r := (yX9_listsThoseBy, prog_11_method_62_code, 4, none)) rfl rfl (by decide +kernel) (by decide) rfl (fun p e s m args below meth c D tys aK aV b0 ad w0 C hret => ?_)
  have loop : ∀ (d k c1 : Nat) (γ : Nat → Int), γ 0 = (k : Int) → 20 - k = d → 1 ≤ k → k ≤ 20 → c1 + 1 ≤ cn + k → ev_go p l e (ek_rm kLt) s m args below meth c (MQ below (hk_qc D tys tQ (fun _ _ ws => ∃ c2 : Nat, c2 ≤ cn + 19 ∧ lV c2 st ws) b0 ad w0 kLt false) args s 0 0 (fun q => b0 ≤ q)) D tys tQ (lV c1 st) b0 4 ad w0 [(84, 72), (131, 999)] γ (4, [some (.inr 86, none), some (.inl (0, 19), none), some (.inl (1, 20), some (0, 0)), none], [], [], []) := by
    intro d
    induction d using Nat.strongRecOn with
    | _ d ih =>
      intro k c1 γ hγ hd hk1 hk2 hc1
      refine hv_go C lV_hI [(84, 72), (131, 999)] [kq_3019, kq_1108] (3, 68) [] [(103, [none, none, none, none], [], [], []), (4, [some (.inr 86, none), some (.inl (0, 19), none), some (.inl (2, 20), some (0, 1)), none], [], [], []), (94, [some (.inr 86, none), some (.inl (0, 19), none), some (.inl (1, 19), some (0, 0)), none], [(.inl (1, 19), ev_nt), (.inr 86, ev_nt)], [], [])] 200 ⟨rfl, rfl⟩ (by decide +kernel) ⟨ek_upS lV_hI (fun _ _ => trivial) rfl (qk_3019 l), ek_upS lV_hI (fun _ _ => trivial) rfl (qk_1108 l), trivial⟩ ⟨?_, ?_, ?_, trivial⟩
      · exact hs_vret C (i := 0) (fun ls w _ _ _ hI => ⟨c1, by omega, hI⟩) hret rfl rfl rfl rfl (by decide +kernel)
      · refine ev_go_lo (i := 2) (n := 0) (d := 1) (q := (2, 20)) rfl (fun b1 b2 => ?_)
        dsimp only at b1 b2
        refine ev_go_re (i := 2) (n := 0) (d := 1) (γ' := fun _ => (k : Int) + 1) rfl rfl (by rw [hγ]) ?_
        refine ev_go_lset (i := 2) (n := 0) (d := 0) (q' := (1, 20)) rfl ⟨by dsimp only; omega, by dsimp only; omega⟩ ?_
        exact ih (20 - (k + 1)) (by omega) (k + 1) c1 (fun _ => (k : Int) + 1) (by simp) rfl (by omega) (by omega) (by omega)
      · refine ev_go_lo (i := 2) (n := 0) (d := 0) (q := (1, 19)) rfl (fun b1 b2 => ?_)
        dsimp only at b1 b2
        refine hs_callV C (A := [(.inl (1, 19), ev_nt)]) (S := []) (j := 84) (i := 396) (mi := 192) (n := 1) (ci := 9) (E := fun _ => True) (li l (by omega)) (fun w h => ⟨h, trivial⟩) (fun _ _ _ h => h) (by decide +kernel) rfl rfl rfl (by decide) rfl (by decide) rfl rfl rfl (by decide) (by decide) (by decide) (by decide +kernel) (fun i u x hu hq => ?_)
        match i, hu with
        | 0, hu =>
          cases hu
          have hx0 : x = 0 := hq
          subst hx0
          refine ev_go_mono (I' := lV (c1 + 1) st) (fun w h => h.1) ?_
          refine hv_go C lV_hI [(84, 72), (131, 999)] [] (3, 68) [] [(4, [some (.inr 86, none), some (.inl (0, 19), none), some (.inl (1, 20), some (0, 1)), none], [], [], [])] 80 ⟨rfl, rfl⟩ (by decide +kernel) trivial ⟨?_, trivial⟩
          refine ev_go_re (i := 2) (n := 0) (d := 1) (γ' := fun _ => (k : Int) + 1) rfl rfl (by rw [hγ]) ?_
          exact ih (20 - (k + 1)) (by omega) (k + 1) (c1 + 1) (fun _ => (k : Int) + 1) (by simp) rfl (by omega) (by omega) (by omega)
  refine hv_go C lV_hI [(84, 72), (131, 999)] [] (3, 68) [] [(3, [some (.inr 86, none), some (.inl (0, 19), none), none, none], [(.inl (1, 20), ev_nt)], [], [])] 80 ⟨rfl, rfl⟩ (by decide +kernel) trivial ⟨?_, trivial⟩
  refine ev_go_name (fun v hv1 hv2 => ?_)
  dsimp only at hv1 hv2
  obtain ⟨k, rfl⟩ : ∃ k : Nat, v = (k : Int) := ⟨v.toNat, by omega⟩
  refine ev_op_ok C lV_hI (K := []) (rm := (3, 68)) (fun _ h => absurd h List.not_mem_nil) ⟨rfl, rfl⟩ (op := .istore_n 2) (len := 1) (by decide +kernel) rfl (fun sx hst => ?_)
  rw [List.mem_singleton.mp hst]
  refine ev_go_gv 0 (k : Int) rfl ?_
  refine ev_go_mark (i := 2) (n := 0) (q' := (1, 20)) (v := (k : Int)) rfl ⟨by dsimp only; omega, by dsimp only; omega⟩ rfl ?_
  exact loop _ k cn _ rfl rfl (by omega) (by omega) (by omega)
theorem ra (l : Launch) : ek_ok l tQ iG kRa := by
  have key : hk_ok l tQ (fun _ => True) (fun _ _ _ => True) kRa := by
    refine hk_ok_of (o := 9) (r := (yX9_replaysAll, prog_11_method_63_code, 4, none)) rfl rfl (by decide +kernel) (by decide) rfl (fun p e s m args below meth c D tys aK aV b0 ad w0 C hret => ?_)
    have loop : ∀ (d k c1 : Nat) (st : Nat → Int) (γ : Nat → Int), γ 0 = (k : Int) → 400 - k = d → k ≤ 400 → (c1 : Int) + 19 * nW st 20 ≤ 381 → ev_go p l e (ek_rm kRa) s m args below meth c (MQ below (hk_qc D tys tQ (fun _ _ _ => True) b0 ad w0 kRa false) args s 0 0 (fun q => b0 ≤ q)) D tys tQ (lV c1 st) b0 4 ad w0 [(84, 65), (84, 67), (84, 72), (118, 999), (123, 999), (126, 999), (128, 999), (131, 999)] γ (12, [some (.inr 86, none), none, some (.inl (0, 400), some (0, 0)), none], [], [], []) := by
      intro d
      induction d using Nat.strongRecOn with
      | _ d ih =>
        intro k c1 st γ hγ hd hk hc1
        have hnn := nW_nn st 20
        refine hv_go C lV_hI [(84, 65), (84, 67), (84, 72), (118, 999), (123, 999), (126, 999), (128, 999), (131, 999)] [] (4, 91) [] [(17, [some (.inr 86, none), none, some (.inl (0, 400), some (0, 0)), none], [(.inl (-2147483648, 2147483647), (2, 84, 72, 0)), (.inl (0, 400), (1, 2, 0, 0))], [], [])] 80 ⟨rfl, rfl⟩ (by decide +kernel) trivial ⟨?_, trivial⟩
        refine hs_icmp C (cd := .ge) (off := 88) (k : Int) (c1 : Int) (fun ls w x y hw hl hF hI hx tx hy ty => ?_) (by decide) (by decide +kernel) (fun hc => ?_) (fun hc => ?_)
        · obtain ⟨u, g1, g2⟩ := tag_l tx
          have g3 := lo_mark (i := 2) (n := 0) (d := 0) hl rfl g1
          exact ⟨by omega, by rw [tag_f ty, hI.1]; omega⟩
        · exact hs_vret C (i := 0) (fun ls w _ _ _ hI => trivial) hret rfl rfl rfl rfl (by decide +kernel)
        · have hc : ¬ ((c1 : Int) ≤ k) := hc
          refine ev_go_lset (i := 2) (n := 0) (d := 0) (q' := (0, 399)) rfl ⟨by dsimp only; omega, by dsimp only; omega⟩ ?_
          refine hv_go C lV_hI [(84, 65), (84, 67), (84, 72), (118, 999), (123, 999), (126, 999), (128, 999), (131, 999)] [] (4, 91) [] [(26, [some (.inr 86, none), none, some (.inl (0, 399), some (0, 0)), none], [(.inl (0, 19), ev_nt)], [], [])] 80 ⟨rfl, rfl⟩ (by decide +kernel) trivial ⟨?_, trivial⟩
          refine ev_go_name (fun v hv1 hv2 => ?_)
          dsimp only at hv1 hv2
          obtain ⟨v, rfl⟩ : ∃ k : Nat, v = (k : Int) := ⟨v.toNat, by omega⟩
          refine ev_op_ok C lV_hI (K := []) (rm := (4, 91)) (fun _ h => absurd h List.not_mem_nil) ⟨rfl, rfl⟩ (op := .istore_n 3) (len := 1) (by decide +kernel) rfl (fun sx hst => ?_)
          rw [List.mem_singleton.mp hst]
          refine ev_go_gv 1 (v : Int) rfl ?_
          refine ev_go_mark (i := 3) (n := 1) (q' := (0, 19)) (v := (v : Int)) rfl ⟨by dsimp only; omega, by dsimp only; omega⟩ rfl ?_
          have k0 : ev_gu 1 (v : Int) γ 0 = (k : Int) := hγ
          have k1 : ev_gu 1 (v : Int) γ 1 = (v : Int) := rfl
          refine hv_go C lV_hI [(84, 65), (84, 67), (84, 72), (118, 999), (123, 999), (126, 999), (128, 999), (131, 999)] [] (4, 91) [] [(32, [some (.inr 86, none), none, some (.inl (0, 399), some (0, 0)), some (.inl (0, 19), some (1, 0))], [(.inl (0, 19), (1, 3, 0, 0)), (.inr 120, ev_nt)], [], [])] 80 (st := (27, [some (.inr 86, none), none, some (.inl (0, 399), some (0, 0)), some (.inl (0, 19), some (1, 0))], [], [], [])) ⟨rfl, rfl⟩ (by decide +kernel) trivial ⟨?_, trivial⟩
          by_cases hz : st v = 0
          · refine hs_ald C (I' := lV c1 st) (b := (0, 0)) (t := (0, 20, -2147483648, 2147483647)) ?_ rfl rfl ?_ (by decide +kernel) ?_
            · intro ls w i x hw hl hF hI hi ti i0 i1 hx hb
              obtain ⟨u, g1, g2⟩ := tag_l ti
              have g3 := lo_mark (i := 3) (n := 1) (d := 0) hl rfl g1
              rw [k1] at g3
              have e2 : i.toInt.toNat = v := by omega
              rw [hI.2, e2] at hx
              have hb1 := hb.1
              have hb2 := hb.2
              dsimp only at hb1 hb2
              exact ⟨hI, by show 0 ≤ x.toInt; omega, by show x.toInt ≤ 0; omega⟩
            · intro ls w i hw hl hF hI hi ti
              obtain ⟨a1, a2⟩ := hi
              dsimp only at a1 a2
              exact ⟨by omega, by show i.toInt < 20; omega⟩
            · refine hv_go C lV_hI [(84, 65), (84, 67), (84, 72), (118, 999), (123, 999), (126, 999), (128, 999), (131, 999)] [] (4, 91) [] [(12, [some (.inr 86, none), none, some (.inl (0, 400), some (0, 1)), none], [], [], [])] 80 ⟨rfl, rfl⟩ (by decide +kernel) trivial ⟨?_, trivial⟩
              refine ev_go_re (i := 2) (n := 0) (d := 1) (γ' := fun _ => (k : Int) + 1) rfl rfl (by show (k : Int) + 1 = ev_gu 1 (v : Int) γ 0 + 1; rw [k0]) ?_
              exact ih (400 - (k + 1)) (by omega) (k + 1) c1 st (fun _ => (k : Int) + 1) (by simp) rfl (by omega) (by omega)
          have hn2 := nW_upd st v hz 20 (by omega)
          have hn3 := nW_nn (uN v 0 st) 20
          rcases Int.lt_or_lt_of_ne hz with hz1 | hz1
          · refine hs_ald C (I' := lV c1 st) (b := ((-2147483648), (-1))) (t := (0, 20, -2147483648, 2147483647)) ?_ rfl rfl ?_ (by decide +kernel) ?_
            · intro ls w i x hw hl hF hI hi ti i0 i1 hx hb
              obtain ⟨u, g1, g2⟩ := tag_l ti
              have g3 := lo_mark (i := 3) (n := 1) (d := 0) hl rfl g1
              rw [k1] at g3
              have e2 : i.toInt.toNat = v := by omega
              rw [hI.2, e2] at hx
              have hb1 := hb.1
              have hb2 := hb.2
              dsimp only at hb1 hb2
              exact ⟨hI, by show (-2147483648) ≤ x.toInt; omega, by show x.toInt ≤ (-1); omega⟩
            · intro ls w i hw hl hF hI hi ti
              obtain ⟨a1, a2⟩ := hi
              dsimp only at a1 a2
              exact ⟨by omega, by show i.toInt < 20; omega⟩
            · refine hv_go C lV_hI [(84, 65), (84, 67), (84, 72), (118, 999), (123, 999), (126, 999), (128, 999), (131, 999)] [] (4, 91) [] [(41, [some (.inr 86, none), none, some (.inl (0, 399), some (0, 0)), some (.inl (0, 19), some (1, 0))], [(.inl (0, 19), (1, 3, 0, 0)), (.inr 86, ev_nt)], [], [])] 80 ⟨rfl, rfl⟩ (by decide +kernel) trivial ⟨?_, trivial⟩
              refine hs_callV C (A := [(.inl (0, 19), (1, 3, 0, 0))]) (S := []) (j := 84) (i := 399) (mi := 193) (n := 1) (ci := 9) (E := fun _ => True) (lt l (by omega)) (fun w h => ⟨h, trivial⟩) (fun _ _ _ h => h) (by decide +kernel) rfl rfl rfl (by decide) rfl (by decide) rfl rfl rfl (by decide) (by decide) (by decide) (by decide +kernel) (fun i u x hu hq => ?_)
              match i, hu with
              | 0, hu =>
                cases hu
                have hx0 : x = 0 := hq
                subst hx0
                refine ev_go_mono (fun w h => h.1) (ev_go_exP (fun c2 hc2 => ?_))
                refine hv_go C lV_hI [(84, 65), (84, 67), (84, 72), (118, 999), (123, 999), (126, 999), (128, 999), (131, 999)] [] (4, 91) [] [(50, [some (.inr 86, none), none, some (.inl (0, 399), some (0, 0)), some (.inl (0, 19), some (1, 0))], [(.inl (0, 0), ev_nt), (.inl (0, 19), (1, 3, 0, 0)), (.inr 120, ev_nt)], [], [])] 80 ⟨rfl, rfl⟩ (by decide +kernel) trivial ⟨?_, trivial⟩
                refine hs_ast C (I' := lV c2 (uN v 0 st)) (t := (0, 20, -2147483648, 2147483647)) ?_ rfl rfl ?_ (by decide) (by decide) (by decide) (by decide +kernel) ?_
                · intro ls w w' i x hw hl hF hI hi ti hx tx i0 i1 hs hf
                  obtain ⟨u, g1, g2⟩ := tag_l ti
                  have g3 := lo_mark (i := 3) (n := 1) (d := 0) hl rfl g1
                  rw [k1] at g3
                  have e2 : i.toInt.toNat = v := by omega
                  have e3 : x.toInt = 0 := by have a1 := hx.1; have a2 := hx.2; dsimp only at a1 a2; omega
                  rw [e2, e3] at hs
                  refine ⟨by rw [hs.2.2]; exact hI.1, ?_⟩
                  rw [hs.1, hI.2]
                  rfl
                · intro ls w i hw hl hF hI hi ti
                  obtain ⟨a1, a2⟩ := hi
                  dsimp only at a1 a2
                  exact ⟨by omega, by show i.toInt < 20; omega⟩
                · refine hv_go C lV_hI [(84, 65), (84, 67), (84, 72), (118, 999), (123, 999), (126, 999), (128, 999), (131, 999)] [kq_449] (4, 91) [] [(12, [some (.inr 86, none), none, some (.inl (0, 400), some (0, 1)), none], [], [], [])] 80 ⟨rfl, rfl⟩ (by decide +kernel) ⟨ek_upS lV_hI (fun _ _ => trivial) rfl (qk_449 l), trivial⟩ ⟨?_, trivial⟩
                  refine ev_go_re (i := 2) (n := 0) (d := 1) (γ' := fun _ => (k : Int) + 1) rfl rfl (by show (k : Int) + 1 = ev_gu 1 (v : Int) γ 0 + 1; rw [k0]) ?_
                  exact ih (400 - (k + 1)) (by omega) (k + 1) c2 (uN v 0 st) (fun _ => (k : Int) + 1) (by simp) rfl (by omega) (by omega)
          · refine hs_ald C (I' := lV c1 st) (b := (1, 2147483647)) (t := (0, 20, -2147483648, 2147483647)) ?_ rfl rfl ?_ (by decide +kernel) ?_
            · intro ls w i x hw hl hF hI hi ti i0 i1 hx hb
              obtain ⟨u, g1, g2⟩ := tag_l ti
              have g3 := lo_mark (i := 3) (n := 1) (d := 0) hl rfl g1
              rw [k1] at g3
              have e2 : i.toInt.toNat = v := by omega
              rw [hI.2, e2] at hx
              have hb1 := hb.1
              have hb2 := hb.2
              dsimp only at hb1 hb2
              exact ⟨hI, by show 1 ≤ x.toInt; omega, by show x.toInt ≤ 2147483647; omega⟩
            · intro ls w i hw hl hF hI hi ti
              obtain ⟨a1, a2⟩ := hi
              dsimp only at a1 a2
              exact ⟨by omega, by show i.toInt < 20; omega⟩
            · refine hv_go C lV_hI [(84, 65), (84, 67), (84, 72), (118, 999), (123, 999), (126, 999), (128, 999), (131, 999)] [] (4, 91) [] [(41, [some (.inr 86, none), none, some (.inl (0, 399), some (0, 0)), some (.inl (0, 19), some (1, 0))], [(.inl (0, 19), (1, 3, 0, 0)), (.inr 86, ev_nt)], [], [])] 80 ⟨rfl, rfl⟩ (by decide +kernel) trivial ⟨?_, trivial⟩
              refine hs_callV C (A := [(.inl (0, 19), (1, 3, 0, 0))]) (S := []) (j := 84) (i := 399) (mi := 193) (n := 1) (ci := 9) (E := fun _ => True) (lt l (by omega)) (fun w h => ⟨h, trivial⟩) (fun _ _ _ h => h) (by decide +kernel) rfl rfl rfl (by decide) rfl (by decide) rfl rfl rfl (by decide) (by decide) (by decide) (by decide +kernel) (fun i u x hu hq => ?_)
              match i, hu with
              | 0, hu =>
                cases hu
                have hx0 : x = 0 := hq
                subst hx0
                refine ev_go_mono (fun w h => h.1) (ev_go_exP (fun c2 hc2 => ?_))
                refine hv_go C lV_hI [(84, 65), (84, 67), (84, 72), (118, 999), (123, 999), (126, 999), (128, 999), (131, 999)] [] (4, 91) [] [(50, [some (.inr 86, none), none, some (.inl (0, 399), some (0, 0)), some (.inl (0, 19), some (1, 0))], [(.inl (0, 0), ev_nt), (.inl (0, 19), (1, 3, 0, 0)), (.inr 120, ev_nt)], [], [])] 80 ⟨rfl, rfl⟩ (by decide +kernel) trivial ⟨?_, trivial⟩
                refine hs_ast C (I' := lV c2 (uN v 0 st)) (t := (0, 20, -2147483648, 2147483647)) ?_ rfl rfl ?_ (by decide) (by decide) (by decide) (by decide +kernel) ?_
                · intro ls w w' i x hw hl hF hI hi ti hx tx i0 i1 hs hf
                  obtain ⟨u, g1, g2⟩ := tag_l ti
                  have g3 := lo_mark (i := 3) (n := 1) (d := 0) hl rfl g1
                  rw [k1] at g3
                  have e2 : i.toInt.toNat = v := by omega
                  have e3 : x.toInt = 0 := by have a1 := hx.1; have a2 := hx.2; dsimp only at a1 a2; omega
                  rw [e2, e3] at hs
                  refine ⟨by rw [hs.2.2]; exact hI.1, ?_⟩
                  rw [hs.1, hI.2]
                  rfl
                · intro ls w i hw hl hF hI hi ti
                  obtain ⟨a1, a2⟩ := hi
                  dsimp only at a1 a2
                  exact ⟨by omega, by show i.toInt < 20; omega⟩
                · refine hv_go C lV_hI [(84, 65), (84, 67), (84, 72), (118, 999), (123, 999), (126, 999), (128, 999), (131, 999)] [kq_449] (4, 91) [] [(12, [some (.inr 86, none), none, some (.inl (0, 400), some (0, 1)), none], [], [], [])] 80 ⟨rfl, rfl⟩ (by decide +kernel) ⟨ek_upS lV_hI (fun _ _ => trivial) rfl (qk_449 l), trivial⟩ ⟨?_, trivial⟩
                  refine ev_go_re (i := 2) (n := 0) (d := 1) (γ' := fun _ => (k : Int) + 1) rfl rfl (by show (k : Int) + 1 = ev_gu 1 (v : Int) γ 0 + 1; rw [k0]) ?_
                  exact ih (400 - (k + 1)) (by omega) (k + 1) c2 (uN v 0 st) (fun _ => (k : Int) + 1) (by simp) rfl (by omega) (by omega)
    refine hv_go C tr_hI [(84, 65), (84, 67), (84, 72), (118, 999), (123, 999), (126, 999), (128, 999), (131, 999)] [] (4, 91) [] [(2, [some (.inr 86, none), some (.inl (0, 19), none), none, none], [(.inl (0, 0), ev_nt), (.inr 86, ev_nt)], [], [])] 80 ⟨rfl, rfl⟩ (by decide +kernel) trivial ⟨?_, trivial⟩
    refine hs_put C (I' := fun ws => ∃ st : Nat → Int, True ∧ lV 0 st ws) (i := 387) (ci := 9) (f := 72) (j := 84) (b := (-2147483648, 2147483647)) ?_ (by decide +kernel) rfl (by decide) rfl rfl (by decide) (by decide) (by decide) (by decide) (by decide +kernel) ?_
    · intro ls w w' z hw hl hF hI hz tz hp hf
      have e : z.toInt = ((0 : Nat) : Int) := by have a1 := hz.1; have a2 := hz.2; dsimp only at a1 a2; omega
      exact ⟨gA w 118, trivial, by rw [hp.1, e], by rw [hp.2.2]⟩
    · refine ev_go_exP (fun st _ => ?_)
      refine hv_go C lV_hI [(84, 65), (84, 67), (84, 72), (118, 999), (123, 999), (126, 999), (128, 999), (131, 999)] [] (4, 91) [] [(7, [some (.inr 86, none), none, none, none], [(.inl (0, 19), ev_nt), (.inr 86, ev_nt)], [], [])] 80 ⟨rfl, rfl⟩ (by decide +kernel) trivial ⟨?_, trivial⟩
      refine hs_callV C (A := [(.inl (0, 19), ev_nt)]) (S := []) (j := 84) (i := 396) (mi := 192) (n := 1) (ci := 9) (E := fun _ => True) (li l (by decide)) (fun w h => ⟨h, trivial⟩) (fun _ _ _ h => h) (by decide +kernel) rfl rfl rfl (by decide) rfl (by decide) rfl rfl rfl (by decide) (by decide) (by decide) (by decide +kernel) (fun i u x hu hq => ?_)
      match i, hu with
      | 0, hu =>
        cases hu
        have hx0 : x = 0 := hq
        subst hx0
        refine ev_go_mono (I' := lV (0 + 1) st) (fun w h => h.1) ?_
        refine hv_go C lV_hI [(84, 65), (84, 67), (84, 72), (118, 999), (123, 999), (126, 999), (128, 999), (131, 999)] [] (4, 91) [] [(12, [some (.inr 86, none), none, some (.inl (0, 0), none), none], [], [], [])] 80 ⟨rfl, rfl⟩ (by decide +kernel) trivial ⟨?_, trivial⟩
        refine ev_go_gv 0 0 rfl ?_
        refine ev_go_mark (i := 2) (n := 0) (q' := (0, 400)) (v := 0) rfl (by decide) rfl ?_
        exact loop _ 0 (0 + 1) st _ rfl rfl (by omega) (by have := nW_nn st 20; omega)
  exact hk_ek key (fun _ _ => trivial) (fun i x w w' hI hf _ => iG_hI _ w w' (by decide) hf hI)
