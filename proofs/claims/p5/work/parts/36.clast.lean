def kJo : ek := (90, [.inl (-2147483648, 2147483647), .inl (-2147483648, 2147483647), .inl (-2147483648, 2147483647)], [], [], [(some (.inl (-2147483648, 2147483647)), [])], 0, 0)
theorem jo (l : Launch) : ek_ok l tQ iQ kJo := ek_good_ok (sp := sQ) (K := []) (SP := []) (HS := []) (N := 0) (fuel := 60) hIQ (fun _ h => absurd h List.not_mem_nil) (by decide +kernel)
def lQ (S O : Nat → Int) (ws : va_W) : Prop := gA ws 20 = S ∧ gA ws 21 = O
theorem lQ_hI {S O : Nat → Int} : ev_hI (lQ S O) [(20, 999), (21, 999)] := fun W1 w w' h1 h2 h => ⟨(gA_fr h2 (fun h => h1 _ h (by simp))).trans h.1, (gA_fr h2 (fun h => h1 _ h (by simp))).trans h.2⟩
def kCr : ek := (89, [.inr 18, .inl (0, 240), .inl (0, 240)], [], [(23, 999)], [(some (.inl (-2147483648, 2147483647)), [])], 1, 22)
theorem cr (l : Launch) : ek_ok l tQ iG kCr := by
  have key : hk_ok l tQ (fun w => ∃ v : (Nat → Int) × (Nat → Int), lC v.1 v.2 ∧ lQ v.1 v.2 w) (fun _ _ _ => True) kCr := by
    refine hk_exP (fun v hlc => ?_)
    obtain ⟨S, O⟩ := v
    dsimp only at hlc
    refine hk_ok_of (o := 0) (r := (yX0_reckon, prog_2_method_19_code, 7, some .int)) rfl rfl (by decide +kernel) (by decide) rfl (fun p e s m args below meth c D tys aK aV b0 ad w0 C hret => ?_)
    have loop : ∀ (d k : Nat) (γ : Nat → Int), γ 0 = (k : Int) → 240 - k = d → k ≤ 240 → ev_go p l e (ek_rm kCr) s m args below meth c (MQ below (hk_qc D tys tQ (fun _ _ _ => True) b0 ad w0 kCr true) args s 0 0 (fun q => b0 ≤ q)) D tys tQ (lQ S O) b0 7 ad w0 [(23, 999)] γ (8, [some (.inr 18, none), none, some (.inl (0, 240), none), some (.inl (0, 64), none), some (.inl (-2147483648, 2147483647), none), some (.inl (0, 240), some (0, 0)), none], [], [], []) := by
      intro d
      induction d using Nat.strongRecOn with
      | _ d ih =>
        intro k γ hγ hd hk
        refine hv_go C lQ_hI [(23, 999)] [] (1, 22) [] [(284, [none, none, none, none, none, none, none], [(.inl (-2147483648, 2147483647), ev_nt)], [], []), (8, [some (.inr 18, none), none, some (.inl (0, 240), none), some (.inl (0, 64), none), some (.inl (-2147483648, 2147483647), none), some (.inl (1, 240), some (0, 1)), none], [], [], []), (38, [some (.inr 18, none), none, some (.inl (0, 240), none), some (.inl (0, 64), none), some (.inl (-2147483648, 2147483647), none), some (.inl (0, 239), some (0, 0)), none], [(.inl (0, 239), (1, 5, 0, 0)), (.inr 22, ev_nt)], [], [])] 80 ⟨rfl, rfl⟩ (by decide +kernel) trivial ⟨?_, ?_, ?_, trivial⟩
        · exact hs_iret C (i := 0) (fun ls w x _ _ _ hI hx _ => trivial) hret rfl rfl rfl (by decide) rfl rfl rfl (by decide +kernel)
        · refine ev_go_lo (i := 5) (n := 0) (d := 1) (q := (1, 240)) rfl (fun b1 b2 => ?_)
          dsimp only at b1 b2
          refine ev_go_re (i := 5) (n := 0) (d := 1) (γ' := fun _ => (k : Int) + 1) rfl rfl (by rw [hγ]) ?_
          refine ev_go_lset (i := 5) (n := 0) (d := 0) (q' := (0, 240)) rfl ⟨by dsimp only; omega, by dsimp only; omega⟩ ?_
          exact ih (240 - (k + 1)) (by omega) (k + 1) (fun _ => (k : Int) + 1) (by simp) rfl (by omega)
        · refine ev_go_lo (i := 5) (n := 0) (d := 0) (q := (0, 239)) rfl (fun b1 b2 => ?_)
          dsimp only at b1 b2
          by_cases h97 : S k = 97
          · refine hs_ald C (I' := lQ S O) (b := (97, 97)) (t := (0, 240, -2147483648, 2147483647)) ?_ rfl rfl ?_ (by decide +kernel) ?_
            · intro ls w i x hw hl hF hI hi ti i0 i1 hx hb
              obtain ⟨u, g1, g2⟩ := tag_l ti
              have g3 := lo_mark (i := 5) (n := 0) (d := 0) hl rfl g1
              rw [hγ] at g3
              have e2 : i.toInt.toNat = k := by omega
              rw [hI.1, e2] at hx
              have hb1 := hb.1
              have hb2 := hb.2
              dsimp only at hb1 hb2
              exact ⟨hI, by show 97 ≤ x.toInt; omega, by show x.toInt ≤ 97; omega⟩
            · intro ls w i hw hl hF hI hi ti
              obtain ⟨a1, a2⟩ := hi
              dsimp only at a1 a2
              exact ⟨by omega, by show i.toInt < 240; omega⟩
            · refine hv_go C lQ_hI [(23, 999)] [] (1, 22) [] [(62, [none, none, none, none, none, none, none], [(.inl (0, 0), ev_nt)], [], []), (95, [some (.inr 18, none), none, some (.inl (0, 240), none), some (.inl (0, 63), none), some (.inl (-2147483648, 2147483647), none), some (.inl (0, 239), some (0, 0)), none], [(.inl (0, 239), (1, 5, 0, 0)), (.inr 23, ev_nt), (.inr 24, ev_nt), (.inl (0, 63), (1, 3, 0, 0)), (.inr 25, ev_nt)], [], [])] 200 ⟨rfl, rfl⟩ (by decide +kernel) trivial ⟨?_, ?_, trivial⟩
              · exact hs_iret C (i := 0) (fun ls w x _ _ _ hI hx _ => trivial) hret rfl rfl rfl (by decide) rfl rfl rfl (by decide +kernel)
              · have hop := hlc k (by omega) h97
                refine hs_ald C (I' := lQ S O) (b := (0, 6)) (t := (0, 240, -2147483648, 2147483647)) ?_ rfl rfl ?_ (by decide +kernel) ?_
                · intro ls w i x hw hl hF hI hi ti i0 i1 hx hb
                  obtain ⟨u, g1, g2⟩ := tag_l ti
                  have g3 := lo_mark (i := 5) (n := 0) (d := 0) hl rfl g1
                  rw [hγ] at g3
                  have e2 : i.toInt.toNat = k := by omega
                  rw [hI.2, e2] at hx
                  have hb1 := hb.1
                  have hb2 := hb.2
                  dsimp only at hb1 hb2
                  exact ⟨hI, by show 0 ≤ x.toInt; omega, by show x.toInt ≤ 6; omega⟩
                · intro ls w i hw hl hF hI hi ti
                  obtain ⟨a1, a2⟩ := hi
                  dsimp only at a1 a2
                  exact ⟨by omega, by show i.toInt < 240; omega⟩
                · refine hv_go C lQ_hI [(23, 999)] [] (1, 22) [] [(8, [some (.inr 18, none), none, some (.inl (0, 240), none), some (.inl (0, 64), none), some (.inl (-2147483648, 2147483647), none), some (.inl (1, 240), some (0, 1)), none], [], [], [])] 80 ⟨rfl, rfl⟩ (by decide +kernel) trivial ⟨?_, trivial⟩
                  refine ev_go_re (i := 5) (n := 0) (d := 1) (γ' := fun _ => (k : Int) + 1) rfl rfl (by rw [hγ]) ?_
                  refine ev_go_lset (i := 5) (n := 0) (d := 0) (q' := (0, 240)) rfl ⟨by dsimp only; omega, by dsimp only; omega⟩ ?_
                  exact ih (240 - (k + 1)) (by omega) (k + 1) (fun _ => (k : Int) + 1) (by simp) rfl (by omega)
          rcases Int.lt_or_lt_of_ne h97 with h9 | h9
          · refine hs_ald C (I' := lQ S O) (b := ((-2147483648), 96)) (t := (0, 240, -2147483648, 2147483647)) ?_ rfl rfl ?_ (by decide +kernel) ?_
            · intro ls w i x hw hl hF hI hi ti i0 i1 hx hb
              obtain ⟨u, g1, g2⟩ := tag_l ti
              have g3 := lo_mark (i := 5) (n := 0) (d := 0) hl rfl g1
              rw [hγ] at g3
              have e2 : i.toInt.toNat = k := by omega
              rw [hI.1, e2] at hx
              have hb1 := hb.1
              have hb2 := hb.2
              dsimp only at hb1 hb2
              exact ⟨hI, by show (-2147483648) ≤ x.toInt; omega, by show x.toInt ≤ 96; omega⟩
            · intro ls w i hw hl hF hI hi ti
              obtain ⟨a1, a2⟩ := hi
              dsimp only at a1 a2
              exact ⟨by omega, by show i.toInt < 240; omega⟩
            · refine hv_go C lQ_hI [(23, 999)] [kJo] (1, 22) [] [(62, [none, none, none, none, none, none, none], [(.inl (0, 0), ev_nt)], [], []), (110, [none, none, none, none, none, none, none], [(.inl (0, 0), ev_nt)], [], []), (233, [none, none, none, none, none, none, none], [(.inl (0, 0), ev_nt)], [], []), (8, [some (.inr 18, none), none, some (.inl (0, 240), none), some (.inl (0, 64), none), some (.inl (-2147483648, 2147483647), none), some (.inl (1, 240), some (0, 1)), none], [], [], [])] 200 ⟨rfl, rfl⟩ (by decide +kernel) ⟨ek_upS lQ_hI (fun _ _ => trivial) rfl (jo l), trivial⟩ ⟨?_, ?_, ?_, ?_, trivial⟩
              · exact hs_iret C (i := 0) (fun ls w x _ _ _ hI hx _ => trivial) hret rfl rfl rfl (by decide) rfl rfl rfl (by decide +kernel)
              · exact hs_iret C (i := 0) (fun ls w x _ _ _ hI hx _ => trivial) hret rfl rfl rfl (by decide) rfl rfl rfl (by decide +kernel)
              · exact hs_iret C (i := 0) (fun ls w x _ _ _ hI hx _ => trivial) hret rfl rfl rfl (by decide) rfl rfl rfl (by decide +kernel)
              · refine ev_go_re (i := 5) (n := 0) (d := 1) (γ' := fun _ => (k : Int) + 1) rfl rfl (by rw [hγ]) ?_
                refine ev_go_lset (i := 5) (n := 0) (d := 0) (q' := (0, 240)) rfl ⟨by dsimp only; omega, by dsimp only; omega⟩ ?_
                exact ih (240 - (k + 1)) (by omega) (k + 1) (fun _ => (k : Int) + 1) (by simp) rfl (by omega)
          · refine hs_ald C (I' := lQ S O) (b := (98, 2147483647)) (t := (0, 240, -2147483648, 2147483647)) ?_ rfl rfl ?_ (by decide +kernel) ?_
            · intro ls w i x hw hl hF hI hi ti i0 i1 hx hb
              obtain ⟨u, g1, g2⟩ := tag_l ti
              have g3 := lo_mark (i := 5) (n := 0) (d := 0) hl rfl g1
              rw [hγ] at g3
              have e2 : i.toInt.toNat = k := by omega
              rw [hI.1, e2] at hx
              have hb1 := hb.1
              have hb2 := hb.2
              dsimp only at hb1 hb2
              exact ⟨hI, by show 98 ≤ x.toInt; omega, by show x.toInt ≤ 2147483647; omega⟩
            · intro ls w i hw hl hF hI hi ti
              obtain ⟨a1, a2⟩ := hi
              dsimp only at a1 a2
              exact ⟨by omega, by show i.toInt < 240; omega⟩
            · refine hv_go C lQ_hI [(23, 999)] [kJo] (1, 22) [] [(62, [none, none, none, none, none, none, none], [(.inl (0, 0), ev_nt)], [], []), (110, [none, none, none, none, none, none, none], [(.inl (0, 0), ev_nt)], [], []), (233, [none, none, none, none, none, none, none], [(.inl (0, 0), ev_nt)], [], []), (8, [some (.inr 18, none), none, some (.inl (0, 240), none), some (.inl (0, 64), none), some (.inl (-2147483648, 2147483647), none), some (.inl (1, 240), some (0, 1)), none], [], [], [])] 200 ⟨rfl, rfl⟩ (by decide +kernel) ⟨ek_upS lQ_hI (fun _ _ => trivial) rfl (jo l), trivial⟩ ⟨?_, ?_, ?_, ?_, trivial⟩
              · exact hs_iret C (i := 0) (fun ls w x _ _ _ hI hx _ => trivial) hret rfl rfl rfl (by decide) rfl rfl rfl (by decide +kernel)
              · exact hs_iret C (i := 0) (fun ls w x _ _ _ hI hx _ => trivial) hret rfl rfl rfl (by decide) rfl rfl rfl (by decide +kernel)
              · exact hs_iret C (i := 0) (fun ls w x _ _ _ hI hx _ => trivial) hret rfl rfl rfl (by decide) rfl rfl rfl (by decide +kernel)
              · refine ev_go_re (i := 5) (n := 0) (d := 1) (γ' := fun _ => (k : Int) + 1) rfl rfl (by rw [hγ]) ?_
                refine ev_go_lset (i := 5) (n := 0) (d := 0) (q' := (0, 240)) rfl ⟨by dsimp only; omega, by dsimp only; omega⟩ ?_
                exact ih (240 - (k + 1)) (by omega) (k + 1) (fun _ => (k : Int) + 1) (by simp) rfl (by omega)
    refine hv_go C lQ_hI [(23, 999)] [] (1, 22) [] [(6, [some (.inr 18, none), some (.inl (0, 240), none), some (.inl (0, 240), none), some (.inl (0, 0), none), some (.inl (0, 240), none), none, none], [(.inl (0, 240), ev_nt)], [], [])] 80 ⟨rfl, rfl⟩ (by decide +kernel) trivial ⟨?_, trivial⟩
    refine ev_go_name (fun v hv1 hv2 => ?_)
    dsimp only at hv1 hv2
    obtain ⟨k, rfl⟩ : ∃ k : Nat, v = (k : Int) := ⟨v.toNat, by omega⟩
    refine ev_op_ok C lQ_hI (K := []) (rm := (1, 22)) (fun _ h => absurd h List.not_mem_nil) ⟨rfl, rfl⟩ (op := .istore 5) (len := 2) (by decide +kernel) rfl (fun st hst => ?_)
    rw [List.mem_singleton.mp hst]
    refine ev_go_drop 1 ?_
    refine ev_go_gv 0 (k : Int) rfl ?_
    refine ev_go_mark (i := 5) (n := 0) (q' := (0, 240)) (v := (k : Int)) rfl ⟨by dsimp only; omega, by dsimp only; omega⟩ rfl ?_
    refine hv_go C lQ_hI [(23, 999)] [] (1, 22) [] [(8, [some (.inr 18, none), none, some (.inl (0, 240), none), some (.inl (0, 64), none), some (.inl (-2147483648, 2147483647), none), some (.inl (0, 240), some (0, 0)), none], [], [], [])] 80 (st := (8, [some (.inr 18, none), none, some (.inl (0, 240), none), some (.inl (0, 0), none), some (.inl (0, 240), none), some (.inl (0, 240), some (0, 0)), none], [], [], [])) ⟨rfl, rfl⟩ (by decide +kernel) trivial ⟨?_, trivial⟩
    exact loop _ k _ rfl rfl (by omega)
  exact hk_ek key (fun w h => ⟨(gA w 20, gA w 21), h.1, rfl, rfl⟩) (fun i x w w' hI hf _ => iG_hI _ w w' (by decide) hf hI)
theorem hs_copy {p : Program} {l : Launch} {e : Env} {R : Room} {s : State} {m : MethodId} {args : Array Value} {below : List Frame} {meth : Method} {c : Code} {Q : State → Prop} {cc : ByteArray} {D : va_G} {tys : List (ClassId × FieldType)} {T : en_T} {I I' : va_W → Prop} {aK aV b0 nL o : Nat} {ad : Nat → Nat} {w0 : va_W} {Wr : List (Nat × Nat)} {γ : Nat → Int} {pc : Nat} {L : List ev_l} {S : List ev_s} {FS : List ev_f} {RS : List ev_r} (C : ev_cx p s m args meth c cc nL o D tys aK aV b0) {i j0 j1 n : Nat} {t0 t1 : Nat × Nat × Int × Int} {u1 u2 u3 u4 u5 : ev_t} (hstep : ∀ w w' : va_W, I w → gA w' j1 = (fun k => if k < n then gA w j0 k else gA w j1 k) → (∀ j', j' ≠ j1 → gA w' j' = gA w j') → (∀ j' f', gI w' j' f' = gI w j' f') → I' w') (hf : (o, i) ∈ en_ac) (ht0 : T[j0]? = some (.inl t0)) (ht1 : T[j1]? = some (.inl t1)) (hy0 : t0.1 = 0) (hy1 : t1.1 = 0) (hn0 : n ≤ t0.2.1) (hn1 : n ≤ t1.2.1) (hb0 : t1.2.2.1 ≤ t0.2.2.1) (hb1 : t0.2.2.2 ≤ t1.2.2.2) (hwr : (j1, 999) ∈ Wr)
    (hfr : 1 ≤ R.frames) (hlo : S.length + (nativeFrameWords "java/lang/System" "arraycopy" 5 + 11) ≤ R.locals) (hd : decode cc pc = .ok (.invokestatic i, 3)) (k : ev_go p l e R s m args below meth c Q D tys T I' b0 nL ad w0 Wr γ (pc + 3, L, S.map (ev_hs [(j1, 999)]), ev_hf [(j1, 999)] FS, RS)) :
    ev_go p l e R s m args below meth c Q D tys T I b0 nL ad w0 Wr γ (pc, L, (.inl ((n : Int), (n : Int)), u1) :: (.inl (0, 0), u2) :: (.inr (j1 + 2), u3) :: (.inl (0, 0), u4) :: (.inr (j0 + 2), u5) :: S, FS, RS) := by
  intro H locs ls stk ws h
  dsimp only at h
  obtain ⟨hz, hl, hs, hF, hR, hw, hI, hP, hD, hS, hfr0⟩ := h
  obtain ⟨x1, v1, rfl, ⟨nn, rfl, hnn⟩, -, hs1⟩ := ev_stk_cons hs
  obtain ⟨x2, v2, rfl, ⟨dp, rfl, hdp⟩, -, hs2⟩ := ev_stk_cons hs1
  obtain ⟨x3, v3, rfl, hx3, -, hs3⟩ := ev_stk_cons hs2
  obtain ⟨rfl, hj1⟩ : x3 = .ref (ad j1) ∧ j1 < T.length := hx3
  obtain ⟨x4, v4, rfl, ⟨sq, rfl, hsq⟩, -, hs4⟩ := ev_stk_cons hs3
  obtain ⟨x5, v5, rfl, hx5, -, hs5⟩ := ev_stk_cons hs4
  obtain ⟨rfl, hj0⟩ : x5 = .ref (ad j0) ∧ j0 < T.length := hx5
  obtain ⟨e0, g1, ge⟩ := hw.2 j0 _ ht0
  unfold ev_c at ge
  dsimp only at ge
  rw [if_neg (by rw [hy0]; decide)] at ge
  obtain ⟨cA, f, rfl, g2, g3⟩ := ge
  obtain ⟨e1, q1, qe⟩ := hw.2 j1 _ ht1
  unfold ev_c at qe
  dsimp only at qe
  rw [if_neg (by rw [hy1]; decide)] at qe
  obtain ⟨cB, g, rfl, q2, q3⟩ := qe
  dsimp only at hnn hdp hsq
  have z1 : sq.toInt = 0 := by omega
  have z2 : dp.toInt = 0 := by omega
  have z3 : nn.toInt = (n : Int) := by omega
  have c1 : sq.toNatClampNeg = 0 := by show sq.toInt.toNat = 0; omega
  have c2 : dp.toNatClampNeg = 0 := by show dp.toInt.toNat = 0; omega
  have c3 : nn.toNatClampNeg = n := by show nn.toInt.toNat = n; omega
  have hww : ∀ w ∈ ([.native arraycopyName, .static arraycopyName, .initialized "java/lang/System"] : List Cond), w ∈ en_ws := fun w hw => en_ws_in (en_ac_c w hw) (by
    rcases List.mem_cons.mp hw with rfl | hw
    · rfl
    · rcases List.mem_cons.mp hw with rfl | hw
      · rfl
      · rw [List.mem_singleton.mp hw]; rfl)
  refine va_copyi C.1 C.2.1 (C.2.2.1.trans hz.1.symm) C.2.2.2.1 (C.2.2.2.2.1 _ (en_ws_in (en_ac_in _ (List.mem_map.mpr ⟨(o, i), hf, rfl⟩)) rfl)) (C.2.2.2.2.1 _ (hww _ List.mem_cons_self)) (C.2.2.2.2.1 _ (hww _ (List.mem_cons_of_mem _ List.mem_cons_self))) (C.2.2.2.2.1 _ (hww _ (List.mem_cons_of_mem _ (List.mem_cons_of_mem _ List.mem_cons_self)))) C.2.2.2.2.2.1 hP hD hS j0 j1 t0.1 t1.1 g1 q1 (ty := .int) (by rw [g2, hy0]; rfl) (by rw [q2, hy1]; rfl) rfl
    (by rw [fa_lt]; show ¬ sq.toInt < 0; omega) (by rw [fa_lt]; show ¬ dp.toInt < 0; omega) (by rw [fa_lt]; show ¬ nn.toInt < 0; omega) (by omega) (by omega) (fun _ _ => rfl) hfr (by rw [ev_stk_len hs5]; exact hlo) hd (fun H1 locs1 hP1 hD1 hS1 => ?_)
  have hj := (List.getElem?_eq_some_iff.mp q1).1
  have hf1 : ev_fr [(j1, 999)] ws (ws.set j1 (ad j1, .inl (cB, t1.2.1, .inl (va_cpy f g sq.toNatClampNeg dp.toNatClampNeg nn.toNatClampNeg)))) := ev_fr_set q1 (Or.inl List.mem_cons_self)
  have hc : ev_c tys T.length ad (.inl t1) (.inl (cB, t1.2.1, .inl (va_cpy f g sq.toNatClampNeg dp.toNatClampNeg nn.toNatClampNeg))) := by
    unfold ev_c
    dsimp only
    rw [if_neg (by rw [hy1]; decide)]
    refine ⟨cB, _, rfl, q2, fun j hj => ?_⟩
    rw [c1, c2, c3]
    by_cases hjn : j < n
    · rw [pk_cpy_in (Nat.zero_le _) (by omega)]
      have h9 := g3 (0 + (j - 0)) (by omega)
      exact ⟨Int.le_trans hb0 h9.1, Int.le_trans h9.2 hb1⟩
    · rw [pk_cpy_out (Or.inr (by omega))]
      exact q3 j hj
  refine k H1 locs1 ls v5 _ ⟨hz, hl, ev_hs_ok hf1 hs5, ev_hf_ok hf1 hF, hR, ev_w_set hw ht1 hc, hstep ws _ hI ?_ (fun j' hn => ?_) (fun j' f' => ?_), hP1, hD1, hS1, hfr0.tr hf1 (fun q hq => by rw [List.mem_singleton.mp hq]; exact hwr)⟩
  · rw [gA_eq (List.getElem?_set_self hj), gA_eq g1, gA_eq q1]
    funext j
    dsimp only
    rw [c1, c2, c3]
    by_cases hjn : j < n
    · rw [pk_cpy_in (Nat.zero_le _) (by omega), if_pos hjn, Nat.zero_add, Nat.sub_zero]
    · rw [pk_cpy_out (Or.inr (by omega)), if_neg hjn]
  · unfold gA
    rw [List.getElem?_set_ne (Ne.symm hn)]
  · by_cases hjj : j' = j1
    · subst hjj
      unfold gI
      rw [List.getElem?_set_self hj, q1]
    · unfold gI
      rw [List.getElem?_set_ne (Ne.symm hjj)]
theorem cf (l : Launch) : ek_ok l tQ iG kq_102 := by
  refine hk_ek (J := fun _ _ ws => iG ws) (I' := iG) ?_ (fun w h => h) (fun i x w w' _ _ h => h)
  refine hk_ok_of (o := 0) (r := (yX0_copyFrom, prog_2_method_2_code, 2, none)) rfl rfl (by decide +kernel) (by decide) rfl (fun p e s m args below meth c D tys aK aV b0 ad w0 C hret => ?_)
  refine hv_go C iG_hI [(16, 7), (17, 999), (18, 999), (19, 999), (20, 999), (21, 999)] [] (1, 65) [] [(58, [some (.inr 18, none), some (.inr 59, none)], [(.inl (240, 240), ev_nt), (.inl (0, 0), ev_nt), (.inr 22, ev_nt), (.inl (0, 0), ev_nt), (.inr 63, ev_nt)], [], [])] 80 ⟨rfl, rfl⟩ (by decide +kernel) trivial ⟨?_, trivial⟩
  refine hs_copy C (n := 240) (i := 41) (j0 := 61) (j1 := 20) (t0 := (0, 240, -2147483648, 2147483647)) (t1 := (0, 240, -2147483648, 2147483647)) (I' := fun w => (∀ k, k < 240 → gA w 20 k = gA w 61 k) ∧ lC (gA w 61) (gA w 62) ∧ mC w) (fun w w' hI h1 h2 h3 => ?_) (by decide +kernel) rfl rfl rfl rfl (by decide) (by decide) (by decide) (by decide) (by decide) (by decide) (by decide +kernel) (by decide +kernel) ?_
  · refine ⟨fun k hk => ?_, ?_, ?_⟩
    · rw [h1, h2 61 (by decide)]
      exact if_pos hk
    · rw [h2 61 (by decide), h2 62 (by decide)]
      exact hI.2.1
    · have := hI.2.2
      unfold mC at *
      rw [h3, h2 103 (by decide), h2 105 (by decide), h2 106 (by decide), h2 107 (by decide)]
      exact this
  · have hI9 : ev_hI (fun w : va_W => (∀ k, k < 240 → gA w 20 k = gA w 61 k) ∧ lC (gA w 61) (gA w 62) ∧ mC w) sG := by
      intro W1 w w' h1 h2 h
      have a1 := gA_fr (j := 20) h2 (fun h => h1 _ h (by simp [sG]))
      have a3 := gA_fr (j := 61) h2 (fun h => h1 _ h (by simp [sG]))
      have a4 := gA_fr (j := 62) h2 (fun h => h1 _ h (by simp [sG]))
      have a5 := gA_fr (j := 103) h2 (fun h => h1 _ h (by simp [sG]))
      have a6 := gA_fr (j := 105) h2 (fun h => h1 _ h (by simp [sG]))
      have a7 := gA_fr (j := 106) h2 (fun h => h1 _ h (by simp [sG]))
      have a8 := gA_fr (j := 107) h2 (fun h => h1 _ h (by simp [sG]))
      have a9 := gI_fr (j := 84) (f := 27) h2 (fun h => h1 _ h (by simp [sG]))
      unfold mC at *
      rw [a1, a3, a4, a5, a6, a7, a8, a9]
      exact h
    refine hv_go C hI9 [(16, 7), (17, 999), (18, 999), (19, 999), (20, 999), (21, 999)] [] (1, 65) [] [(74, [some (.inr 18, none), some (.inr 59, none)], [(.inl (240, 240), ev_nt), (.inl (0, 0), ev_nt), (.inr 23, ev_nt), (.inl (0, 0), ev_nt), (.inr 64, ev_nt)], [], [])] 80 ⟨rfl, rfl⟩ (by decide +kernel) trivial ⟨?_, trivial⟩
    refine hs_copy C (n := 240) (i := 41) (j0 := 62) (j1 := 21) (t0 := (0, 240, -2147483648, 2147483647)) (t1 := (0, 240, -2147483648, 2147483647)) (I' := iG) (fun w w' hI h1 h2 h3 => ?_) (by decide +kernel) rfl rfl rfl rfl (by decide) (by decide) (by decide) (by decide) (by decide) (by decide) (by decide +kernel) (by decide +kernel) ?_
    · obtain ⟨g1, g2, g3⟩ := hI
      refine ⟨fun k hk h97 => ?_, ?_, ?_⟩
      · rw [h2 20 (by decide), g1 k hk] at h97
        rw [h1]
        show 0 ≤ (if k < 240 then gA w 62 k else gA w 21 k) ∧ (if k < 240 then gA w 62 k else gA w 21 k) ≤ 6
        rw [if_pos hk]
        exact g2 k hk h97
      · rw [h2 61 (by decide), h2 62 (by decide)]
        exact g2
      · unfold mC at *
        rw [h3, h2 103 (by decide), h2 105 (by decide), h2 106 (by decide), h2 107 (by decide)]
        exact g3
    · refine hv_go C iG_hI [(16, 7), (17, 999), (18, 999), (19, 999), (20, 999), (21, 999)] [] (1, 65) [] [(85, [none, none], [], [], [])] 80 ⟨rfl, rfl⟩ (by decide +kernel) trivial ⟨?_, trivial⟩
      exact hs_vret C (i := 0) (fun ls w _ _ _ hI => hI) hret rfl rfl rfl rfl (by decide +kernel)
