theorem tr_hI : ev_hI (fun _ => True) [] := fun _ _ _ _ _ _ => trivial
def kL_0 : ek := (160, [.inr 86, .inl (0, 0)], [], [(84, 25), (97, 999)], [(none, [])], 1, 20)
theorem la_0 (l : Launch) {g : Nat → Int} {sg : Nat} {B N : Prop} {tp : Nat → Int} {ln : Nat} {σ : Nat → Int} {cm : Nat} {wt : Nat → Int} {wn pl : Nat} (hz : pZ g sg 1 0 B N σ cm wt wn pl) : hk_ok l tQ (mV tp ln σ cm wt wn pl) (fun _ _ ws => ∃ v : (Nat → Int) × Nat, (pZ g sg 1 0 B N v.1 cm wt v.2 pl) ∧ mV tp ln v.1 cm wt v.2 pl ws) kL_0 := by
  refine hk_ok_of (o := 9) (r := (yX9_lands, prog_11_method_26_code, 3, none)) rfl rfl (by decide +kernel) (by decide) rfl (fun p e s m args below meth c D tys aK aV b0 ad w0 C hret => ?_)
  refine ev_go_w (P := pl ≤ 240) (fun w hw h => mV_240 hw h) (fun hpl => ?_)
  have loop : ∀ (n : Nat) (σ : Nat → Int), pZ g sg 1 0 B N σ cm wt n pl → ev_go p l e (ek_rm kL_0) s m args below meth c (MQ below (hk_qc D tys tQ (fun _ _ ws => ∃ v : (Nat → Int) × Nat, (pZ g sg 1 0 B N v.1 cm wt v.2 pl) ∧ mV tp ln v.1 cm wt v.2 pl ws) b0 ad w0 kL_0 false) args s 0 0 (fun q => b0 ≤ q)) D tys tQ (mV tp ln σ cm wt n pl) b0 3 ad w0 [(84, 25), (97, 999)] (fun _ => 0) (0, [some (.inr 86, none), some (.inl (0, 0), none), none], [], [], []) := by
    intro n
    induction n with
    | zero =>
      intro σ hz
      refine hv_go C mV_hI [(84, 25), (97, 999)] [kW (-1)] (1, 20) [] [(73, [none, none, none], [], [], [])] 80 ⟨rfl, rfl⟩ (by decide +kernel) ⟨wT l (-1) (Or.inl ⟨rfl, rfl⟩), trivial⟩ ⟨?_, trivial⟩
      exact hs_vret C (i := 0) (fun ls w _ _ _ hI => ⟨(σ, 0), hz, hI⟩) hret rfl rfl rfl rfl (by decide +kernel)
    | succ n ih =>
      intro σ hz
      obtain ⟨h1, h2⟩ := hz.2.2.2.2.2.2.1 n (by omega)
      have hb1 : n + 1 ≤ pl := hz.2.2.1
      have hb2 : (cm : Int) ≤ pl := by
        have := hz.2.2.2.1
        have := cnt_nn (q := qN) (wt := wt) (n + 1)
        omega
      have hx : wt n / 1048576 = 2 ∨ wt n / 1048576 = 3 ∨ wt n / 1048576 = 4 ∨ wt n / 1048576 = 5 ∨ wt n / 1048576 = 6 ∨ wt n / 1048576 = 10 ∨ wt n / 1048576 = 11 ∨ wt n / 1048576 = 12 ∨ wt n / 1048576 = 13 ∨ wt n / 1048576 = 14 := by omega
      refine ev_go_fact 84 25 (1, 260) rfl rfl (fun w hw h => by rw [h.2.2.2.1]; exact ⟨by dsimp only; omega, by dsimp only; omega⟩) ?_
      rcases hx with hx | hx | hx | hx | hx | hx | hx | hx | hx | hx
      · refine hv_go C mV_hI [(84, 25), (97, 999)] [kW 2] (1, 20) [] [(73, [none, none, none], [], [], [])] 80 ⟨rfl, rfl⟩ (by decide +kernel) ⟨wT l 2 (Or.inr ⟨by omega, by omega, h1, hx.symm⟩), trivial⟩ ⟨?_, trivial⟩
        exact hs_vret C (i := 0) (fun ls w _ _ _ hI => ⟨(σ, n + 1), hz, hI⟩) hret rfl rfl rfl rfl (by decide +kernel)
      · refine hv_go C mV_hI [(84, 25), (97, 999)] [kW 3] (1, 20) [] [(73, [none, none, none], [], [], [])] 80 ⟨rfl, rfl⟩ (by decide +kernel) ⟨wT l 3 (Or.inr ⟨by omega, by omega, h1, hx.symm⟩), trivial⟩ ⟨?_, trivial⟩
        exact hs_vret C (i := 0) (fun ls w _ _ _ hI => ⟨(σ, n + 1), hz, hI⟩) hret rfl rfl rfl rfl (by decide +kernel)
      · refine hv_go C mV_hI [(84, 25), (97, 999)] [kW 4] (1, 20) [] [(73, [none, none, none], [], [], [])] 80 ⟨rfl, rfl⟩ (by decide +kernel) ⟨wT l 4 (Or.inr ⟨by omega, by omega, h1, hx.symm⟩), trivial⟩ ⟨?_, trivial⟩
        exact hs_vret C (i := 0) (fun ls w _ _ _ hI => ⟨(σ, n + 1), hz, hI⟩) hret rfl rfl rfl rfl (by decide +kernel)
      · refine hv_go C mV_hI [(84, 25), (97, 999)] [kW 5] (1, 20) [] [(73, [none, none, none], [], [], [])] 80 ⟨rfl, rfl⟩ (by decide +kernel) ⟨wT l 5 (Or.inr ⟨by omega, by omega, h1, hx.symm⟩), trivial⟩ ⟨?_, trivial⟩
        exact hs_vret C (i := 0) (fun ls w _ _ _ hI => ⟨(σ, n + 1), hz, hI⟩) hret rfl rfl rfl rfl (by decide +kernel)
      · refine hv_go C mV_hI [(84, 25), (97, 999)] [kW 6] (1, 20) [] [(73, [none, none, none], [], [], [])] 80 ⟨rfl, rfl⟩ (by decide +kernel) ⟨wT l 6 (Or.inr ⟨by omega, by omega, h1, hx.symm⟩), trivial⟩ ⟨?_, trivial⟩
        exact hs_vret C (i := 0) (fun ls w _ _ _ hI => ⟨(σ, n + 1), hz, hI⟩) hret rfl rfl rfl rfl (by decide +kernel)
      · refine hv_go C mV_hI [(84, 25), (97, 999)] [kW 10] (1, 20) [] [(73, [none, none, none], [], [], [])] 80 ⟨rfl, rfl⟩ (by decide +kernel) ⟨wT l 10 (Or.inr ⟨by omega, by omega, h1, hx.symm⟩), trivial⟩ ⟨?_, trivial⟩
        exact hs_vret C (i := 0) (fun ls w _ _ _ hI => ⟨(σ, n + 1), hz, hI⟩) hret rfl rfl rfl rfl (by decide +kernel)
      · refine hv_go C mV_hI [(84, 25), (97, 999)] [kW 11] (1, 20) [] [(32, [some (.inr 86, none), some (.inl (0, 0), none), none], [(.inl (0, 259), (2, 84, 25, -1)), (.inr 100, ev_nt)], [((2, 84, 25), (1, 260), none)], [])] 80 ⟨rfl, rfl⟩ (by decide +kernel) ⟨wT l 11 (Or.inr ⟨by omega, by omega, h1, hx.symm⟩), trivial⟩ ⟨?_, trivial⟩
        have hjm : jmp (wt n) := by unfold jmp; omega
        obtain ⟨D0, d1, d2, d3, d4⟩ := hz.2.2.2.2.2.2.2
        obtain ⟨a1, a2, a3, a4⟩ := d4 n (by omega) hjm
        obtain ⟨f, hf⟩ : ∃ f : Nat, wt n % 1048576 = (f : Int) := ⟨(wt n % 1048576).toNat, by omega⟩
        rw [hf] at a1 a2 a3 a4
        rw [show (f : Int).toNat = f from rfl] at a3 a4
        have hσ : 0 ≤ σ f := by
          rcases d3 f (by omega) (by omega) with q | q
          · exact q.1
          · exact q.1.1
        refine hs_ald C (I' := mV tp ln σ cm wt (n + 1) pl) (b := (wt n, wt n)) (t := (0, 260, -2147483648, 2147483647)) ?_ rfl rfl ?_ (by decide +kernel) ?_
        · intro ls w i x hw hl hF hI hi ti i0 i1 hx hb
          have e : i.toInt = (n : Int) := by rw [tag_f ti, hI.2.2.2.1]; omega
          have e2 : i.toInt.toNat = n := by omega
          rw [hI.2.2.1, e2] at hx
          exact ⟨hI, by show wt n ≤ x.toInt; omega, by show x.toInt ≤ wt n; omega⟩
        · intro ls w i hw hl hF hI hi ti
          obtain ⟨a1, a2⟩ := hi
          dsimp only at a1 a2
          exact ⟨by omega, by show i.toInt < 260; omega⟩
        · refine ev_op_ok C mV_hI (K := []) (rm := (1, 20)) (fun _ h => absurd h List.not_mem_nil) ⟨rfl, rfl⟩ (op := .ldc 249) (len := 2) (by decide +kernel) rfl (fun st hst => ?_)
          rw [List.mem_singleton.mp hst]
          refine hs_rem C (v := wt n) (d := 1048576) (by decide) (by decide +kernel) ?_
          have e : (wt n).tmod 1048576 = (f : Int) := by rw [← hf]; exact Int.tmod_eq_emod_of_nonneg h1
          rw [e]
          refine ev_op_ok C mV_hI (K := []) (rm := (1, 20)) (fun _ h => absurd h List.not_mem_nil) ⟨rfl, rfl⟩ (op := .istore_n 2) (len := 1) (by decide +kernel) rfl (fun st hst => ?_)
          rw [List.mem_singleton.mp hst]
          refine ev_go_gam (γ' := fun _ => (f : Int)) rfl ?_
          refine ev_go_mark (i := 2) (n := 0) (q' := (0, 239)) (v := (f : Int)) rfl ⟨by dsimp only; omega, by dsimp only; omega⟩ rfl ?_
          refine ev_go_fact 84 24 (0, 240) rfl rfl (fun w hw h => by rw [h.2.1]; exact ⟨by dsimp only; omega, by dsimp only; omega⟩) ?_
          refine hv_go C mV_hI [(84, 25), (97, 999)] [] (1, 20) [] [(49, [some (.inr 86, none), some (.inl (0, 0), none), some (.inl (0, 239), some (0, 0))], [(.inl (0, 239), (1, 2, 0, 0)), (.inr 99, ev_nt), (.inl (1048576, 1048576), ev_nt), (.inl (0, 239), (1, 2, 0, 0)), (.inr 99, ev_nt)], [((2, 84, 24), (0, 240), none), ((2, 84, 25), (1, 260), none)], [])] 80 (st := (37, [some (.inr 86, none), some (.inl (0, 0), none), some (.inl (0, 239), some (0, 0))], [], [((2, 84, 24), (0, 240), none), ((2, 84, 25), (1, 260), none)], [])) ⟨rfl, rfl⟩ (by decide +kernel) trivial ⟨?_, trivial⟩
          rcases a3 with a3 | a3
          · refine hs_ald C (I' := mV tp ln σ cm wt (n + 1) pl) (b := (11534336, 12582911)) (t := (0, 260, -2147483648, 2147483647)) ?_ rfl rfl ?_ (by decide +kernel) ?_
            · intro ls w i x hw hl hF hI hi ti i0 i1 hx hb
              obtain ⟨u, g1, g2⟩ := tag_l ti
              have g3 : u.toInt = (f : Int) + 0 := lo_mark (i := 2) (n := 0) (d := 0) hl rfl g1
              have e2 : i.toInt.toNat = f := by omega
              rw [hI.1, e2] at hx
              exact ⟨hI, by show 11534336 ≤ x.toInt; omega, by show x.toInt ≤ 12582911; omega⟩
            · intro ls w i hw hl hF hI hi ti
              obtain ⟨a1, a2⟩ := hi
              dsimp only at a1 a2
              exact ⟨by omega, by show i.toInt < 260; omega⟩
            · refine hv_go C mV_hI [(84, 25), (97, 999)] [] (1, 20) [] [(59, [some (.inr 86, none), some (.inl (0, 0), none), some (.inl (0, 239), some (0, 0))], [(.inl (11534336, 11534576), (2, 84, 24, 11534336)), (.inl (0, 239), (1, 2, 0, 0)), (.inr 99, ev_nt)], [((2, 84, 25), (1, 260), none)], [])] 80 ⟨rfl, rfl⟩ (by decide +kernel) trivial ⟨?_, trivial⟩
              refine hs_ast C (I' := mV tp ln (uN f (1048576 * (σ f / 1048576) + cm) σ) cm wt (n + 1) pl) (t := (0, 260, -2147483648, 2147483647)) ?_ rfl rfl ?_ (by decide) (by decide) (by decide) (by decide +kernel) ?_
              · intro ls w w' i x hw hl hF hI hi ti hx tx i0 i1 hs hf
                obtain ⟨u, g1, g2⟩ := tag_l ti
                have g3 : u.toInt = (f : Int) + 0 := lo_mark (i := 2) (n := 0) (d := 0) hl rfl g1
                have e2 : i.toInt.toNat = f := by omega
                have e3 : x.toInt = 1048576 * (σ f / 1048576) + cm := by rw [tag_f tx, hI.2.1, a3]; omega
                have h := mV_s97 hI hs
                rw [e2, e3] at h
                exact h
              · intro ls w i hw hl hF hI hi ti
                obtain ⟨a1, a2⟩ := hi
                dsimp only at a1 a2
                exact ⟨by omega, by show i.toInt < 260; omega⟩
              · refine hv_go C mV_hI [(84, 25), (97, 999)] [] (1, 20) [] [(67, [some (.inr 86, none), some (.inl (0, 0), none), none], [(.inl (0, 259), (2, 84, 25, -1)), (.inr 86, ev_nt)], [], [])] 80 ⟨rfl, rfl⟩ (by decide +kernel) trivial ⟨?_, trivial⟩
                refine hs_put C (I' := mV tp ln (uN f (1048576 * (σ f / 1048576) + cm) σ) cm wt n pl) (i := 253) (ci := 9) (f := 25) (j := 84) (b := (-2147483648, 2147483647)) ?_ (by decide +kernel) rfl (by decide) rfl rfl (by decide) (by decide) (by decide) (by decide) (by decide +kernel) ?_
                · intro ls w w' z hw hl hF hI hz tz hp hf
                  exact mV_p25 hI hp (by rw [tag_f tz, hI.2.2.2.1]; omega)
                · refine hv_go C mV_hI [(84, 25), (97, 999)] [] (1, 20) [] [(0, [some (.inr 86, none), some (.inl (0, 0), none), none], [], [], [])] 80 ⟨rfl, rfl⟩ (by decide +kernel) trivial ⟨?_, trivial⟩
                  exact ev_go_gam (γ' := fun _ => 0) rfl (ih _ (pZ_land hz hjm hf (by omega)))
          · refine hs_ald C (I' := mV tp ln σ cm wt (n + 1) pl) (b := (12582912, 13631487)) (t := (0, 260, -2147483648, 2147483647)) ?_ rfl rfl ?_ (by decide +kernel) ?_
            · intro ls w i x hw hl hF hI hi ti i0 i1 hx hb
              obtain ⟨u, g1, g2⟩ := tag_l ti
              have g3 : u.toInt = (f : Int) + 0 := lo_mark (i := 2) (n := 0) (d := 0) hl rfl g1
              have e2 : i.toInt.toNat = f := by omega
              rw [hI.1, e2] at hx
              exact ⟨hI, by show 12582912 ≤ x.toInt; omega, by show x.toInt ≤ 13631487; omega⟩
            · intro ls w i hw hl hF hI hi ti
              obtain ⟨a1, a2⟩ := hi
              dsimp only at a1 a2
              exact ⟨by omega, by show i.toInt < 260; omega⟩
            · refine hv_go C mV_hI [(84, 25), (97, 999)] [] (1, 20) [] [(59, [some (.inr 86, none), some (.inl (0, 0), none), some (.inl (0, 239), some (0, 0))], [(.inl (12582912, 12583152), (2, 84, 24, 12582912)), (.inl (0, 239), (1, 2, 0, 0)), (.inr 99, ev_nt)], [((2, 84, 25), (1, 260), none)], [])] 80 ⟨rfl, rfl⟩ (by decide +kernel) trivial ⟨?_, trivial⟩
              refine hs_ast C (I' := mV tp ln (uN f (1048576 * (σ f / 1048576) + cm) σ) cm wt (n + 1) pl) (t := (0, 260, -2147483648, 2147483647)) ?_ rfl rfl ?_ (by decide) (by decide) (by decide) (by decide +kernel) ?_
              · intro ls w w' i x hw hl hF hI hi ti hx tx i0 i1 hs hf
                obtain ⟨u, g1, g2⟩ := tag_l ti
                have g3 : u.toInt = (f : Int) + 0 := lo_mark (i := 2) (n := 0) (d := 0) hl rfl g1
                have e2 : i.toInt.toNat = f := by omega
                have e3 : x.toInt = 1048576 * (σ f / 1048576) + cm := by rw [tag_f tx, hI.2.1, a3]; omega
                have h := mV_s97 hI hs
                rw [e2, e3] at h
                exact h
              · intro ls w i hw hl hF hI hi ti
                obtain ⟨a1, a2⟩ := hi
                dsimp only at a1 a2
                exact ⟨by omega, by show i.toInt < 260; omega⟩
              · refine hv_go C mV_hI [(84, 25), (97, 999)] [] (1, 20) [] [(67, [some (.inr 86, none), some (.inl (0, 0), none), none], [(.inl (0, 259), (2, 84, 25, -1)), (.inr 86, ev_nt)], [], [])] 80 ⟨rfl, rfl⟩ (by decide +kernel) trivial ⟨?_, trivial⟩
                refine hs_put C (I' := mV tp ln (uN f (1048576 * (σ f / 1048576) + cm) σ) cm wt n pl) (i := 253) (ci := 9) (f := 25) (j := 84) (b := (-2147483648, 2147483647)) ?_ (by decide +kernel) rfl (by decide) rfl rfl (by decide) (by decide) (by decide) (by decide) (by decide +kernel) ?_
                · intro ls w w' z hw hl hF hI hz tz hp hf
                  exact mV_p25 hI hp (by rw [tag_f tz, hI.2.2.2.1]; omega)
                · refine hv_go C mV_hI [(84, 25), (97, 999)] [] (1, 20) [] [(0, [some (.inr 86, none), some (.inl (0, 0), none), none], [], [], [])] 80 ⟨rfl, rfl⟩ (by decide +kernel) trivial ⟨?_, trivial⟩
                  exact ev_go_gam (γ' := fun _ => 0) rfl (ih _ (pZ_land hz hjm hf (by omega)))
      · refine hv_go C mV_hI [(84, 25), (97, 999)] [kW 12] (1, 20) [] [(73, [none, none, none], [], [], [])] 80 ⟨rfl, rfl⟩ (by decide +kernel) ⟨wT l 12 (Or.inr ⟨by omega, by omega, h1, hx.symm⟩), trivial⟩ ⟨?_, trivial⟩
        exact hs_vret C (i := 0) (fun ls w _ _ _ hI => ⟨(σ, n + 1), hz, hI⟩) hret rfl rfl rfl rfl (by decide +kernel)
      · refine hv_go C mV_hI [(84, 25), (97, 999)] [kW 13] (1, 20) [] [(73, [none, none, none], [], [], [])] 80 ⟨rfl, rfl⟩ (by decide +kernel) ⟨wT l 13 (Or.inr ⟨by omega, by omega, h1, hx.symm⟩), trivial⟩ ⟨?_, trivial⟩
        exact hs_vret C (i := 0) (fun ls w _ _ _ hI => ⟨(σ, n + 1), hz, hI⟩) hret rfl rfl rfl rfl (by decide +kernel)
      · refine hv_go C mV_hI [(84, 25), (97, 999)] [kW 14] (1, 20) [] [(73, [none, none, none], [], [], [])] 80 ⟨rfl, rfl⟩ (by decide +kernel) ⟨wT l 14 (Or.inr ⟨by omega, by omega, h1, hx.symm⟩), trivial⟩ ⟨?_, trivial⟩
        exact hs_vret C (i := 0) (fun ls w _ _ _ hI => ⟨(σ, n + 1), hz, hI⟩) hret rfl rfl rfl rfl (by decide +kernel)
  exact loop wn σ hz
def kL_1 : ek := (160, [.inr 86, .inl (1, 1)], [], [(84, 25), (97, 999)], [(none, [])], 1, 20)
theorem la_1 (l : Launch) {g : Nat → Int} {sg : Nat} {B N : Prop} {tp : Nat → Int} {ln : Nat} {σ : Nat → Int} {cm : Nat} {wt : Nat → Int} {wn pl : Nat} (hz : pZ g sg 1 0 B N σ cm wt wn pl) : hk_ok l tQ (mV tp ln σ cm wt wn pl) (fun _ _ ws => ∃ v : (Nat → Int) × Nat, (pZ g sg 1 0 B N v.1 cm wt v.2 pl ∧ (v.2 = 0 ∨ ¬ jmp (wt (v.2 - 1)))) ∧ mV tp ln v.1 cm wt v.2 pl ws) kL_1 := by
  refine hk_ok_of (o := 9) (r := (yX9_lands, prog_11_method_26_code, 3, none)) rfl rfl (by decide +kernel) (by decide) rfl (fun p e s m args below meth c D tys aK aV b0 ad w0 C hret => ?_)
  refine ev_go_w (P := pl ≤ 240) (fun w hw h => mV_240 hw h) (fun hpl => ?_)
  have loop : ∀ (n : Nat) (σ : Nat → Int), pZ g sg 1 0 B N σ cm wt n pl → ev_go p l e (ek_rm kL_1) s m args below meth c (MQ below (hk_qc D tys tQ (fun _ _ ws => ∃ v : (Nat → Int) × Nat, (pZ g sg 1 0 B N v.1 cm wt v.2 pl ∧ (v.2 = 0 ∨ ¬ jmp (wt (v.2 - 1)))) ∧ mV tp ln v.1 cm wt v.2 pl ws) b0 ad w0 kL_1 false) args s 0 0 (fun q => b0 ≤ q)) D tys tQ (mV tp ln σ cm wt n pl) b0 3 ad w0 [(84, 25), (97, 999)] (fun _ => 0) (0, [some (.inr 86, none), some (.inl (1, 1), none), none], [], [], []) := by
    intro n
    induction n with
    | zero =>
      intro σ hz
      refine hv_go C mV_hI [(84, 25), (97, 999)] [kW (-1)] (1, 20) [] [(73, [none, none, none], [], [], [])] 80 ⟨rfl, rfl⟩ (by decide +kernel) ⟨wT l (-1) (Or.inl ⟨rfl, rfl⟩), trivial⟩ ⟨?_, trivial⟩
      exact hs_vret C (i := 0) (fun ls w _ _ _ hI => ⟨(σ, 0), ⟨hz, Or.inl rfl⟩, hI⟩) hret rfl rfl rfl rfl (by decide +kernel)
    | succ n ih =>
      intro σ hz
      obtain ⟨h1, h2⟩ := hz.2.2.2.2.2.2.1 n (by omega)
      have hb1 : n + 1 ≤ pl := hz.2.2.1
      have hb2 : (cm : Int) ≤ pl := by
        have := hz.2.2.2.1
        have := cnt_nn (q := qN) (wt := wt) (n + 1)
        omega
      have hx : wt n / 1048576 = 2 ∨ wt n / 1048576 = 3 ∨ wt n / 1048576 = 4 ∨ wt n / 1048576 = 5 ∨ wt n / 1048576 = 6 ∨ wt n / 1048576 = 10 ∨ wt n / 1048576 = 11 ∨ wt n / 1048576 = 12 ∨ wt n / 1048576 = 13 ∨ wt n / 1048576 = 14 := by omega
      refine ev_go_fact 84 25 (1, 260) rfl rfl (fun w hw h => by rw [h.2.2.2.1]; exact ⟨by dsimp only; omega, by dsimp only; omega⟩) ?_
      rcases hx with hx | hx | hx | hx | hx | hx | hx | hx | hx | hx
      · refine hv_go C mV_hI [(84, 25), (97, 999)] [kW 2] (1, 20) [] [(73, [none, none, none], [], [], [])] 80 ⟨rfl, rfl⟩ (by decide +kernel) ⟨wT l 2 (Or.inr ⟨by omega, by omega, h1, hx.symm⟩), trivial⟩ ⟨?_, trivial⟩
        exact hs_vret C (i := 0) (fun ls w _ _ _ hI => ⟨(σ, n + 1), ⟨hz, Or.inr (by show ¬ jmp (wt n); unfold jmp; omega)⟩, hI⟩) hret rfl rfl rfl rfl (by decide +kernel)
      · refine hv_go C mV_hI [(84, 25), (97, 999)] [kW 3] (1, 20) [] [(73, [none, none, none], [], [], [])] 80 ⟨rfl, rfl⟩ (by decide +kernel) ⟨wT l 3 (Or.inr ⟨by omega, by omega, h1, hx.symm⟩), trivial⟩ ⟨?_, trivial⟩
        exact hs_vret C (i := 0) (fun ls w _ _ _ hI => ⟨(σ, n + 1), ⟨hz, Or.inr (by show ¬ jmp (wt n); unfold jmp; omega)⟩, hI⟩) hret rfl rfl rfl rfl (by decide +kernel)
      · refine hv_go C mV_hI [(84, 25), (97, 999)] [kW 4] (1, 20) [] [(73, [none, none, none], [], [], [])] 80 ⟨rfl, rfl⟩ (by decide +kernel) ⟨wT l 4 (Or.inr ⟨by omega, by omega, h1, hx.symm⟩), trivial⟩ ⟨?_, trivial⟩
        exact hs_vret C (i := 0) (fun ls w _ _ _ hI => ⟨(σ, n + 1), ⟨hz, Or.inr (by show ¬ jmp (wt n); unfold jmp; omega)⟩, hI⟩) hret rfl rfl rfl rfl (by decide +kernel)
      · refine hv_go C mV_hI [(84, 25), (97, 999)] [kW 5] (1, 20) [] [(73, [none, none, none], [], [], [])] 80 ⟨rfl, rfl⟩ (by decide +kernel) ⟨wT l 5 (Or.inr ⟨by omega, by omega, h1, hx.symm⟩), trivial⟩ ⟨?_, trivial⟩
        exact hs_vret C (i := 0) (fun ls w _ _ _ hI => ⟨(σ, n + 1), ⟨hz, Or.inr (by show ¬ jmp (wt n); unfold jmp; omega)⟩, hI⟩) hret rfl rfl rfl rfl (by decide +kernel)
      · refine hv_go C mV_hI [(84, 25), (97, 999)] [kW 6] (1, 20) [] [(73, [none, none, none], [], [], [])] 80 ⟨rfl, rfl⟩ (by decide +kernel) ⟨wT l 6 (Or.inr ⟨by omega, by omega, h1, hx.symm⟩), trivial⟩ ⟨?_, trivial⟩
        exact hs_vret C (i := 0) (fun ls w _ _ _ hI => ⟨(σ, n + 1), ⟨hz, Or.inr (by show ¬ jmp (wt n); unfold jmp; omega)⟩, hI⟩) hret rfl rfl rfl rfl (by decide +kernel)
      · refine hv_go C mV_hI [(84, 25), (97, 999)] [kW 10] (1, 20) [] [(73, [none, none, none], [], [], [])] 80 ⟨rfl, rfl⟩ (by decide +kernel) ⟨wT l 10 (Or.inr ⟨by omega, by omega, h1, hx.symm⟩), trivial⟩ ⟨?_, trivial⟩
        exact hs_vret C (i := 0) (fun ls w _ _ _ hI => ⟨(σ, n + 1), ⟨hz, Or.inr (by show ¬ jmp (wt n); unfold jmp; omega)⟩, hI⟩) hret rfl rfl rfl rfl (by decide +kernel)
      · refine hv_go C mV_hI [(84, 25), (97, 999)] [kW 11] (1, 20) [] [(32, [some (.inr 86, none), some (.inl (1, 1), none), none], [(.inl (0, 259), (2, 84, 25, -1)), (.inr 100, ev_nt)], [((2, 84, 25), (1, 260), none)], [])] 80 ⟨rfl, rfl⟩ (by decide +kernel) ⟨wT l 11 (Or.inr ⟨by omega, by omega, h1, hx.symm⟩), trivial⟩ ⟨?_, trivial⟩
        have hjm : jmp (wt n) := by unfold jmp; omega
        obtain ⟨D0, d1, d2, d3, d4⟩ := hz.2.2.2.2.2.2.2
        obtain ⟨a1, a2, a3, a4⟩ := d4 n (by omega) hjm
        obtain ⟨f, hf⟩ : ∃ f : Nat, wt n % 1048576 = (f : Int) := ⟨(wt n % 1048576).toNat, by omega⟩
        rw [hf] at a1 a2 a3 a4
        rw [show (f : Int).toNat = f from rfl] at a3 a4
        have hσ : 0 ≤ σ f := by
          rcases d3 f (by omega) (by omega) with q | q
          · exact q.1
          · exact q.1.1
        refine hs_ald C (I' := mV tp ln σ cm wt (n + 1) pl) (b := (wt n, wt n)) (t := (0, 260, -2147483648, 2147483647)) ?_ rfl rfl ?_ (by decide +kernel) ?_
        · intro ls w i x hw hl hF hI hi ti i0 i1 hx hb
          have e : i.toInt = (n : Int) := by rw [tag_f ti, hI.2.2.2.1]; omega
          have e2 : i.toInt.toNat = n := by omega
          rw [hI.2.2.1, e2] at hx
          exact ⟨hI, by show wt n ≤ x.toInt; omega, by show x.toInt ≤ wt n; omega⟩
        · intro ls w i hw hl hF hI hi ti
          obtain ⟨a1, a2⟩ := hi
          dsimp only at a1 a2
          exact ⟨by omega, by show i.toInt < 260; omega⟩
        · refine ev_op_ok C mV_hI (K := []) (rm := (1, 20)) (fun _ h => absurd h List.not_mem_nil) ⟨rfl, rfl⟩ (op := .ldc 249) (len := 2) (by decide +kernel) rfl (fun st hst => ?_)
          rw [List.mem_singleton.mp hst]
          refine hs_rem C (v := wt n) (d := 1048576) (by decide) (by decide +kernel) ?_
          have e : (wt n).tmod 1048576 = (f : Int) := by rw [← hf]; exact Int.tmod_eq_emod_of_nonneg h1
          rw [e]
          refine ev_op_ok C mV_hI (K := []) (rm := (1, 20)) (fun _ h => absurd h List.not_mem_nil) ⟨rfl, rfl⟩ (op := .istore_n 2) (len := 1) (by decide +kernel) rfl (fun st hst => ?_)
          rw [List.mem_singleton.mp hst]
          refine ev_go_gam (γ' := fun _ => (f : Int)) rfl ?_
          refine ev_go_mark (i := 2) (n := 0) (q' := (0, 239)) (v := (f : Int)) rfl ⟨by dsimp only; omega, by dsimp only; omega⟩ rfl ?_
          refine ev_go_fact 84 24 (0, 240) rfl rfl (fun w hw h => by rw [h.2.1]; exact ⟨by dsimp only; omega, by dsimp only; omega⟩) ?_
          refine hv_go C mV_hI [(84, 25), (97, 999)] [] (1, 20) [] [(49, [some (.inr 86, none), some (.inl (1, 1), none), some (.inl (0, 239), some (0, 0))], [(.inl (0, 239), (1, 2, 0, 0)), (.inr 99, ev_nt), (.inl (1048576, 1048576), ev_nt), (.inl (0, 239), (1, 2, 0, 0)), (.inr 99, ev_nt)], [((2, 84, 24), (0, 240), none), ((2, 84, 25), (1, 260), none)], [])] 80 (st := (37, [some (.inr 86, none), some (.inl (1, 1), none), some (.inl (0, 239), some (0, 0))], [], [((2, 84, 24), (0, 240), none), ((2, 84, 25), (1, 260), none)], [])) ⟨rfl, rfl⟩ (by decide +kernel) trivial ⟨?_, trivial⟩
          rcases a3 with a3 | a3
          · refine hs_ald C (I' := mV tp ln σ cm wt (n + 1) pl) (b := (11534336, 12582911)) (t := (0, 260, -2147483648, 2147483647)) ?_ rfl rfl ?_ (by decide +kernel) ?_
            · intro ls w i x hw hl hF hI hi ti i0 i1 hx hb
              obtain ⟨u, g1, g2⟩ := tag_l ti
              have g3 : u.toInt = (f : Int) + 0 := lo_mark (i := 2) (n := 0) (d := 0) hl rfl g1
              have e2 : i.toInt.toNat = f := by omega
              rw [hI.1, e2] at hx
              exact ⟨hI, by show 11534336 ≤ x.toInt; omega, by show x.toInt ≤ 12582911; omega⟩
            · intro ls w i hw hl hF hI hi ti
              obtain ⟨a1, a2⟩ := hi
              dsimp only at a1 a2
              exact ⟨by omega, by show i.toInt < 260; omega⟩
            · refine hv_go C mV_hI [(84, 25), (97, 999)] [] (1, 20) [] [(59, [some (.inr 86, none), some (.inl (1, 1), none), some (.inl (0, 239), some (0, 0))], [(.inl (11534336, 11534576), (2, 84, 24, 11534336)), (.inl (0, 239), (1, 2, 0, 0)), (.inr 99, ev_nt)], [((2, 84, 25), (1, 260), none)], [])] 80 ⟨rfl, rfl⟩ (by decide +kernel) trivial ⟨?_, trivial⟩
              refine hs_ast C (I' := mV tp ln (uN f (1048576 * (σ f / 1048576) + cm) σ) cm wt (n + 1) pl) (t := (0, 260, -2147483648, 2147483647)) ?_ rfl rfl ?_ (by decide) (by decide) (by decide) (by decide +kernel) ?_
              · intro ls w w' i x hw hl hF hI hi ti hx tx i0 i1 hs hf
                obtain ⟨u, g1, g2⟩ := tag_l ti
                have g3 : u.toInt = (f : Int) + 0 := lo_mark (i := 2) (n := 0) (d := 0) hl rfl g1
                have e2 : i.toInt.toNat = f := by omega
                have e3 : x.toInt = 1048576 * (σ f / 1048576) + cm := by rw [tag_f tx, hI.2.1, a3]; omega
                have h := mV_s97 hI hs
                rw [e2, e3] at h
                exact h
              · intro ls w i hw hl hF hI hi ti
                obtain ⟨a1, a2⟩ := hi
                dsimp only at a1 a2
                exact ⟨by omega, by show i.toInt < 260; omega⟩
              · refine hv_go C mV_hI [(84, 25), (97, 999)] [] (1, 20) [] [(67, [some (.inr 86, none), some (.inl (1, 1), none), none], [(.inl (0, 259), (2, 84, 25, -1)), (.inr 86, ev_nt)], [], [])] 80 ⟨rfl, rfl⟩ (by decide +kernel) trivial ⟨?_, trivial⟩
                refine hs_put C (I' := mV tp ln (uN f (1048576 * (σ f / 1048576) + cm) σ) cm wt n pl) (i := 253) (ci := 9) (f := 25) (j := 84) (b := (-2147483648, 2147483647)) ?_ (by decide +kernel) rfl (by decide) rfl rfl (by decide) (by decide) (by decide) (by decide) (by decide +kernel) ?_
                · intro ls w w' z hw hl hF hI hz tz hp hf
                  exact mV_p25 hI hp (by rw [tag_f tz, hI.2.2.2.1]; omega)
                · refine hv_go C mV_hI [(84, 25), (97, 999)] [] (1, 20) [] [(0, [some (.inr 86, none), some (.inl (1, 1), none), none], [], [], [])] 80 ⟨rfl, rfl⟩ (by decide +kernel) trivial ⟨?_, trivial⟩
                  exact ev_go_gam (γ' := fun _ => 0) rfl (ih _ (pZ_land hz hjm hf (by omega)))
          · refine hs_ald C (I' := mV tp ln σ cm wt (n + 1) pl) (b := (12582912, 13631487)) (t := (0, 260, -2147483648, 2147483647)) ?_ rfl rfl ?_ (by decide +kernel) ?_
            · intro ls w i x hw hl hF hI hi ti i0 i1 hx hb
              obtain ⟨u, g1, g2⟩ := tag_l ti
              have g3 : u.toInt = (f : Int) + 0 := lo_mark (i := 2) (n := 0) (d := 0) hl rfl g1
              have e2 : i.toInt.toNat = f := by omega
              rw [hI.1, e2] at hx
              exact ⟨hI, by show 12582912 ≤ x.toInt; omega, by show x.toInt ≤ 13631487; omega⟩
            · intro ls w i hw hl hF hI hi ti
              obtain ⟨a1, a2⟩ := hi
              dsimp only at a1 a2
              exact ⟨by omega, by show i.toInt < 260; omega⟩
            · refine hv_go C mV_hI [(84, 25), (97, 999)] [] (1, 20) [] [(59, [some (.inr 86, none), some (.inl (1, 1), none), some (.inl (0, 239), some (0, 0))], [(.inl (12582912, 12583152), (2, 84, 24, 12582912)), (.inl (0, 239), (1, 2, 0, 0)), (.inr 99, ev_nt)], [((2, 84, 25), (1, 260), none)], [])] 80 ⟨rfl, rfl⟩ (by decide +kernel) trivial ⟨?_, trivial⟩
              refine hs_ast C (I' := mV tp ln (uN f (1048576 * (σ f / 1048576) + cm) σ) cm wt (n + 1) pl) (t := (0, 260, -2147483648, 2147483647)) ?_ rfl rfl ?_ (by decide) (by decide) (by decide) (by decide +kernel) ?_
              · intro ls w w' i x hw hl hF hI hi ti hx tx i0 i1 hs hf
                obtain ⟨u, g1, g2⟩ := tag_l ti
                have g3 : u.toInt = (f : Int) + 0 := lo_mark (i := 2) (n := 0) (d := 0) hl rfl g1
                have e2 : i.toInt.toNat = f := by omega
                have e3 : x.toInt = 1048576 * (σ f / 1048576) + cm := by rw [tag_f tx, hI.2.1, a3]; omega
                have h := mV_s97 hI hs
                rw [e2, e3] at h
                exact h
              · intro ls w i hw hl hF hI hi ti
                obtain ⟨a1, a2⟩ := hi
                dsimp only at a1 a2
                exact ⟨by omega, by show i.toInt < 260; omega⟩
              · refine hv_go C mV_hI [(84, 25), (97, 999)] [] (1, 20) [] [(67, [some (.inr 86, none), some (.inl (1, 1), none), none], [(.inl (0, 259), (2, 84, 25, -1)), (.inr 86, ev_nt)], [], [])] 80 ⟨rfl, rfl⟩ (by decide +kernel) trivial ⟨?_, trivial⟩
                refine hs_put C (I' := mV tp ln (uN f (1048576 * (σ f / 1048576) + cm) σ) cm wt n pl) (i := 253) (ci := 9) (f := 25) (j := 84) (b := (-2147483648, 2147483647)) ?_ (by decide +kernel) rfl (by decide) rfl rfl (by decide) (by decide) (by decide) (by decide) (by decide +kernel) ?_
                · intro ls w w' z hw hl hF hI hz tz hp hf
                  exact mV_p25 hI hp (by rw [tag_f tz, hI.2.2.2.1]; omega)
                · refine hv_go C mV_hI [(84, 25), (97, 999)] [] (1, 20) [] [(0, [some (.inr 86, none), some (.inl (1, 1), none), none], [], [], [])] 80 ⟨rfl, rfl⟩ (by decide +kernel) trivial ⟨?_, trivial⟩
                  exact ev_go_gam (γ' := fun _ => 0) rfl (ih _ (pZ_land hz hjm hf (by omega)))
      · refine hv_go C mV_hI [(84, 25), (97, 999)] [kW 12] (1, 20) [] [(32, [some (.inr 86, none), some (.inl (1, 1), none), none], [(.inl (0, 259), (2, 84, 25, -1)), (.inr 100, ev_nt)], [((2, 84, 25), (1, 260), none)], [])] 80 ⟨rfl, rfl⟩ (by decide +kernel) ⟨wT l 12 (Or.inr ⟨by omega, by omega, h1, hx.symm⟩), trivial⟩ ⟨?_, trivial⟩
        have hjm : jmp (wt n) := by unfold jmp; omega
        obtain ⟨D0, d1, d2, d3, d4⟩ := hz.2.2.2.2.2.2.2
        obtain ⟨a1, a2, a3, a4⟩ := d4 n (by omega) hjm
        obtain ⟨f, hf⟩ : ∃ f : Nat, wt n % 1048576 = (f : Int) := ⟨(wt n % 1048576).toNat, by omega⟩
        rw [hf] at a1 a2 a3 a4
        rw [show (f : Int).toNat = f from rfl] at a3 a4
        have hσ : 0 ≤ σ f := by
          rcases d3 f (by omega) (by omega) with q | q
          · exact q.1
          · exact q.1.1
        refine hs_ald C (I' := mV tp ln σ cm wt (n + 1) pl) (b := (wt n, wt n)) (t := (0, 260, -2147483648, 2147483647)) ?_ rfl rfl ?_ (by decide +kernel) ?_
        · intro ls w i x hw hl hF hI hi ti i0 i1 hx hb
          have e : i.toInt = (n : Int) := by rw [tag_f ti, hI.2.2.2.1]; omega
          have e2 : i.toInt.toNat = n := by omega
          rw [hI.2.2.1, e2] at hx
          exact ⟨hI, by show wt n ≤ x.toInt; omega, by show x.toInt ≤ wt n; omega⟩
        · intro ls w i hw hl hF hI hi ti
          obtain ⟨a1, a2⟩ := hi
          dsimp only at a1 a2
          exact ⟨by omega, by show i.toInt < 260; omega⟩
        · refine ev_op_ok C mV_hI (K := []) (rm := (1, 20)) (fun _ h => absurd h List.not_mem_nil) ⟨rfl, rfl⟩ (op := .ldc 249) (len := 2) (by decide +kernel) rfl (fun st hst => ?_)
          rw [List.mem_singleton.mp hst]
          refine hs_rem C (v := wt n) (d := 1048576) (by decide) (by decide +kernel) ?_
          have e : (wt n).tmod 1048576 = (f : Int) := by rw [← hf]; exact Int.tmod_eq_emod_of_nonneg h1
          rw [e]
          refine ev_op_ok C mV_hI (K := []) (rm := (1, 20)) (fun _ h => absurd h List.not_mem_nil) ⟨rfl, rfl⟩ (op := .istore_n 2) (len := 1) (by decide +kernel) rfl (fun st hst => ?_)
          rw [List.mem_singleton.mp hst]
          refine ev_go_gam (γ' := fun _ => (f : Int)) rfl ?_
          refine ev_go_mark (i := 2) (n := 0) (q' := (0, 239)) (v := (f : Int)) rfl ⟨by dsimp only; omega, by dsimp only; omega⟩ rfl ?_
          refine ev_go_fact 84 24 (0, 240) rfl rfl (fun w hw h => by rw [h.2.1]; exact ⟨by dsimp only; omega, by dsimp only; omega⟩) ?_
          refine hv_go C mV_hI [(84, 25), (97, 999)] [] (1, 20) [] [(49, [some (.inr 86, none), some (.inl (1, 1), none), some (.inl (0, 239), some (0, 0))], [(.inl (0, 239), (1, 2, 0, 0)), (.inr 99, ev_nt), (.inl (1048576, 1048576), ev_nt), (.inl (0, 239), (1, 2, 0, 0)), (.inr 99, ev_nt)], [((2, 84, 24), (0, 240), none), ((2, 84, 25), (1, 260), none)], [])] 80 (st := (37, [some (.inr 86, none), some (.inl (1, 1), none), some (.inl (0, 239), some (0, 0))], [], [((2, 84, 24), (0, 240), none), ((2, 84, 25), (1, 260), none)], [])) ⟨rfl, rfl⟩ (by decide +kernel) trivial ⟨?_, trivial⟩
          rcases a3 with a3 | a3
          · refine hs_ald C (I' := mV tp ln σ cm wt (n + 1) pl) (b := (11534336, 12582911)) (t := (0, 260, -2147483648, 2147483647)) ?_ rfl rfl ?_ (by decide +kernel) ?_
            · intro ls w i x hw hl hF hI hi ti i0 i1 hx hb
              obtain ⟨u, g1, g2⟩ := tag_l ti
              have g3 : u.toInt = (f : Int) + 0 := lo_mark (i := 2) (n := 0) (d := 0) hl rfl g1
              have e2 : i.toInt.toNat = f := by omega
              rw [hI.1, e2] at hx
              exact ⟨hI, by show 11534336 ≤ x.toInt; omega, by show x.toInt ≤ 12582911; omega⟩
            · intro ls w i hw hl hF hI hi ti
              obtain ⟨a1, a2⟩ := hi
              dsimp only at a1 a2
              exact ⟨by omega, by show i.toInt < 260; omega⟩
            · refine hv_go C mV_hI [(84, 25), (97, 999)] [] (1, 20) [] [(59, [some (.inr 86, none), some (.inl (1, 1), none), some (.inl (0, 239), some (0, 0))], [(.inl (11534336, 11534576), (2, 84, 24, 11534336)), (.inl (0, 239), (1, 2, 0, 0)), (.inr 99, ev_nt)], [((2, 84, 25), (1, 260), none)], [])] 80 ⟨rfl, rfl⟩ (by decide +kernel) trivial ⟨?_, trivial⟩
              refine hs_ast C (I' := mV tp ln (uN f (1048576 * (σ f / 1048576) + cm) σ) cm wt (n + 1) pl) (t := (0, 260, -2147483648, 2147483647)) ?_ rfl rfl ?_ (by decide) (by decide) (by decide) (by decide +kernel) ?_
              · intro ls w w' i x hw hl hF hI hi ti hx tx i0 i1 hs hf
                obtain ⟨u, g1, g2⟩ := tag_l ti
                have g3 : u.toInt = (f : Int) + 0 := lo_mark (i := 2) (n := 0) (d := 0) hl rfl g1
                have e2 : i.toInt.toNat = f := by omega
                have e3 : x.toInt = 1048576 * (σ f / 1048576) + cm := by rw [tag_f tx, hI.2.1, a3]; omega
                have h := mV_s97 hI hs
                rw [e2, e3] at h
                exact h
              · intro ls w i hw hl hF hI hi ti
                obtain ⟨a1, a2⟩ := hi
                dsimp only at a1 a2
                exact ⟨by omega, by show i.toInt < 260; omega⟩
              · refine hv_go C mV_hI [(84, 25), (97, 999)] [] (1, 20) [] [(67, [some (.inr 86, none), some (.inl (1, 1), none), none], [(.inl (0, 259), (2, 84, 25, -1)), (.inr 86, ev_nt)], [], [])] 80 ⟨rfl, rfl⟩ (by decide +kernel) trivial ⟨?_, trivial⟩
                refine hs_put C (I' := mV tp ln (uN f (1048576 * (σ f / 1048576) + cm) σ) cm wt n pl) (i := 253) (ci := 9) (f := 25) (j := 84) (b := (-2147483648, 2147483647)) ?_ (by decide +kernel) rfl (by decide) rfl rfl (by decide) (by decide) (by decide) (by decide) (by decide +kernel) ?_
                · intro ls w w' z hw hl hF hI hz tz hp hf
                  exact mV_p25 hI hp (by rw [tag_f tz, hI.2.2.2.1]; omega)
                · refine hv_go C mV_hI [(84, 25), (97, 999)] [] (1, 20) [] [(0, [some (.inr 86, none), some (.inl (1, 1), none), none], [], [], [])] 80 ⟨rfl, rfl⟩ (by decide +kernel) trivial ⟨?_, trivial⟩
                  exact ev_go_gam (γ' := fun _ => 0) rfl (ih _ (pZ_land hz hjm hf (by omega)))
          · refine hs_ald C (I' := mV tp ln σ cm wt (n + 1) pl) (b := (12582912, 13631487)) (t := (0, 260, -2147483648, 2147483647)) ?_ rfl rfl ?_ (by decide +kernel) ?_
            · intro ls w i x hw hl hF hI hi ti i0 i1 hx hb
              obtain ⟨u, g1, g2⟩ := tag_l ti
              have g3 : u.toInt = (f : Int) + 0 := lo_mark (i := 2) (n := 0) (d := 0) hl rfl g1
              have e2 : i.toInt.toNat = f := by omega
              rw [hI.1, e2] at hx
              exact ⟨hI, by show 12582912 ≤ x.toInt; omega, by show x.toInt ≤ 13631487; omega⟩
            · intro ls w i hw hl hF hI hi ti
              obtain ⟨a1, a2⟩ := hi
              dsimp only at a1 a2
              exact ⟨by omega, by show i.toInt < 260; omega⟩
            · refine hv_go C mV_hI [(84, 25), (97, 999)] [] (1, 20) [] [(59, [some (.inr 86, none), some (.inl (1, 1), none), some (.inl (0, 239), some (0, 0))], [(.inl (12582912, 12583152), (2, 84, 24, 12582912)), (.inl (0, 239), (1, 2, 0, 0)), (.inr 99, ev_nt)], [((2, 84, 25), (1, 260), none)], [])] 80 ⟨rfl, rfl⟩ (by decide +kernel) trivial ⟨?_, trivial⟩
              refine hs_ast C (I' := mV tp ln (uN f (1048576 * (σ f / 1048576) + cm) σ) cm wt (n + 1) pl) (t := (0, 260, -2147483648, 2147483647)) ?_ rfl rfl ?_ (by decide) (by decide) (by decide) (by decide +kernel) ?_
              · intro ls w w' i x hw hl hF hI hi ti hx tx i0 i1 hs hf
                obtain ⟨u, g1, g2⟩ := tag_l ti
                have g3 : u.toInt = (f : Int) + 0 := lo_mark (i := 2) (n := 0) (d := 0) hl rfl g1
                have e2 : i.toInt.toNat = f := by omega
                have e3 : x.toInt = 1048576 * (σ f / 1048576) + cm := by rw [tag_f tx, hI.2.1, a3]; omega
                have h := mV_s97 hI hs
                rw [e2, e3] at h
                exact h
              · intro ls w i hw hl hF hI hi ti
                obtain ⟨a1, a2⟩ := hi
                dsimp only at a1 a2
                exact ⟨by omega, by show i.toInt < 260; omega⟩
              · refine hv_go C mV_hI [(84, 25), (97, 999)] [] (1, 20) [] [(67, [some (.inr 86, none), some (.inl (1, 1), none), none], [(.inl (0, 259), (2, 84, 25, -1)), (.inr 86, ev_nt)], [], [])] 80 ⟨rfl, rfl⟩ (by decide +kernel) trivial ⟨?_, trivial⟩
                refine hs_put C (I' := mV tp ln (uN f (1048576 * (σ f / 1048576) + cm) σ) cm wt n pl) (i := 253) (ci := 9) (f := 25) (j := 84) (b := (-2147483648, 2147483647)) ?_ (by decide +kernel) rfl (by decide) rfl rfl (by decide) (by decide) (by decide) (by decide) (by decide +kernel) ?_
                · intro ls w w' z hw hl hF hI hz tz hp hf
                  exact mV_p25 hI hp (by rw [tag_f tz, hI.2.2.2.1]; omega)
                · refine hv_go C mV_hI [(84, 25), (97, 999)] [] (1, 20) [] [(0, [some (.inr 86, none), some (.inl (1, 1), none), none], [], [], [])] 80 ⟨rfl, rfl⟩ (by decide +kernel) trivial ⟨?_, trivial⟩
                  exact ev_go_gam (γ' := fun _ => 0) rfl (ih _ (pZ_land hz hjm hf (by omega)))
      · refine hv_go C mV_hI [(84, 25), (97, 999)] [kW 13] (1, 20) [] [(73, [none, none, none], [], [], [])] 80 ⟨rfl, rfl⟩ (by decide +kernel) ⟨wT l 13 (Or.inr ⟨by omega, by omega, h1, hx.symm⟩), trivial⟩ ⟨?_, trivial⟩
        exact hs_vret C (i := 0) (fun ls w _ _ _ hI => ⟨(σ, n + 1), ⟨hz, Or.inr (by show ¬ jmp (wt n); unfold jmp; omega)⟩, hI⟩) hret rfl rfl rfl rfl (by decide +kernel)
      · refine hv_go C mV_hI [(84, 25), (97, 999)] [kW 14] (1, 20) [] [(73, [none, none, none], [], [], [])] 80 ⟨rfl, rfl⟩ (by decide +kernel) ⟨wT l 14 (Or.inr ⟨by omega, by omega, h1, hx.symm⟩), trivial⟩ ⟨?_, trivial⟩
        exact hs_vret C (i := 0) (fun ls w _ _ _ hI => ⟨(σ, n + 1), ⟨hz, Or.inr (by show ¬ jmp (wt n); unfold jmp; omega)⟩, hI⟩) hret rfl rfl rfl rfl (by decide +kernel)
  exact loop wn σ hz
def kJ_11 : ek := (161, [.inr 86, .inl (11, 11)], [((2, 84, 19), (0, 239), none)], [(84, 19), (84, 24), (84, 25), (97, 999), (98, 999)], [(none, [])], 1, 22)
theorem jm_11 (l : Launch) {tp : Nat → Int} {ln : Nat} {σ : Nat → Int} {cm : Nat} {wt : Nat → Int} {wn pl : Nat} (hc : cm ≤ 240) (hw : wn ≤ 240) : hk_ok l tQ (mV tp ln σ cm wt wn pl) (fun _ _ ws => mV tp ln (uN cm 11534336 σ) (cm + 1) (uN wn (11534336 + cm) wt) (wn + 1) (pl + 1) ws) kJ_11 := by
  refine hk_ok_of (o := 9) (r := (yX9_jumps, prog_11_method_27_code, 2, none)) rfl rfl (by decide +kernel) (by decide) rfl (fun p e s m args below meth c D tys aK aV b0 ad w0 C hret => ?_)
  refine ev_go_fact 84 25 (0, 259) rfl rfl (fun w hw h => by rw [h.2.2.2.1]; exact ⟨by dsimp only; omega, by dsimp only; omega⟩) ?_
  refine ev_go_fact 84 24 (0, 240) rfl rfl (fun w hw h => by rw [h.2.1]; exact ⟨by dsimp only; omega, by dsimp only; omega⟩) ?_
  refine hv_go C mV_hI [(84, 19), (84, 24), (84, 25), (97, 999), (98, 999)] [] (1, 22) [] [(17, [some (.inr 86, none), some (.inl (11, 11), none)], [(.inl (11534336, 11534576), (2, 84, 24, 11534336)), (.inl (0, 259), (2, 84, 25, 0)), (.inr 100, ev_nt)], [((2, 84, 19), (0, 239), none), ((2, 84, 25), (0, 259), none)], [])] 80 ⟨rfl, rfl⟩ (by decide +kernel) trivial ⟨?_, trivial⟩
  refine hs_ast C (I' := mV tp ln σ cm (uN wn (11534336 + cm) wt) wn pl) (t := (0, 260, -2147483648, 2147483647)) ?_ rfl rfl ?_ (by decide) (by decide) (by decide) (by decide +kernel) ?_
  · intro ls w w' i x hw hl hF hI hi ti hx tx i0 i1 hs hf
    have e : i.toInt = wn := by rw [tag_f ti, hI.2.2.2.1]; omega
    have e2 : x.toInt = 11534336 + cm := by rw [tag_f tx, hI.2.1]; omega
    have h := mV_s98 hI hs
    rw [e, e2] at h
    exact h
  · intro ls w i hw hl hF hI hi ti
    have e : i.toInt = wn := by rw [tag_f ti, hI.2.2.2.1]; omega
    exact ⟨by omega, by show i.toInt < 260; omega⟩
  · refine hv_go C mV_hI [(84, 19), (84, 24), (84, 25), (97, 999), (98, 999)] [] (1, 22) [] [(25, [some (.inr 86, none), some (.inl (11, 11), none)], [(.inl (1, 260), (2, 84, 25, 1)), (.inr 86, ev_nt)], [((2, 84, 19), (0, 239), none)], [])] 80 ⟨rfl, rfl⟩ (by decide +kernel) trivial ⟨?_, trivial⟩
    refine hs_put C (I' := mV tp ln σ cm (uN wn (11534336 + cm) wt) (wn + 1) pl) (i := 253) (ci := 9) (f := 25) (j := 84) (b := (-2147483648, 2147483647)) ?_ (by decide +kernel) rfl (by decide) rfl rfl (by decide) (by decide) (by decide) (by decide) (by decide +kernel) ?_
    · intro ls w w' z hw hl hF hI hz tz hp hf
      exact mV_p25 hI hp (by rw [tag_f tz, hI.2.2.2.1]; omega)
    · refine hv_go C mV_hI [(84, 19), (84, 24), (84, 25), (97, 999), (98, 999)] [] (1, 22) [] [(31, [some (.inr 86, none), some (.inl (11, 11), none)], [(.inl (0, 0), ev_nt), (.inl (11, 11), ev_nt), (.inr 86, ev_nt)], [((2, 84, 19), (0, 239), none)], [])] 80 ⟨rfl, rfl⟩ (by decide +kernel) trivial ⟨?_, trivial⟩
      refine hs_callV C (A := [(.inl (0, 0), ev_nt), (.inl (11, 11), ev_nt)]) (S := []) (j := 84) (i := 259) (mi := 151) (n := 2) (ci := 9) (E := fun _ => True) (nt_11 l (by omega)) (fun w h => ⟨h, trivial⟩) (fun _ _ _ h => h) (by decide +kernel) rfl rfl rfl (by decide) rfl (by decide) rfl rfl rfl (by decide) (by decide) (by decide) (by decide +kernel) (fun i u x hu hq => ?_)
      match i, hu with
      | 0, hu =>
        cases hu
        have hx0 : x = 0 := hq
        subst hx0
        refine ev_go_mono (I' := fun ws => ∃ y : Int, (11534336 ≤ y ∧ y ≤ 11534336) ∧ mV tp ln (uN cm y σ) (cm + 1) (uN wn (11534336 + cm) wt) (wn + 1) pl ws) (fun w h => h.1) (ev_go_exP (fun y hy => ?_))
        have e : y = 11534336 := by omega
        subst e
        refine hv_go C mV_hI [(84, 19), (84, 24), (84, 25), (97, 999), (98, 999)] [] (1, 22) [] [(41, [none, none], [(.inl (1, 240), (2, 84, 19, 1)), (.inr 86, ev_nt)], [], [])] 80 ⟨rfl, rfl⟩ (by decide +kernel) trivial ⟨?_, trivial⟩
        refine hs_put C (I' := mV tp ln (uN cm 11534336 σ) (cm + 1) (uN wn (11534336 + cm) wt) (wn + 1) (pl + 1)) (i := 222) (ci := 9) (f := 19) (j := 84) (b := (0, 240)) ?_ (by decide +kernel) rfl (by decide) rfl rfl (by decide) (by decide) (by decide) (by decide) (by decide +kernel) ?_
        · intro ls w w' z hw hl hF hI hz tz hp hf
          exact mV_p19 hI hp (by rw [tag_f tz, hI.2.2.2.2.1]; omega)
        · exact hs_vret C (i := 0) (fun ls w _ _ _ hI => hI) hret rfl rfl rfl rfl (by decide +kernel)
def kJ_12 : ek := (161, [.inr 86, .inl (12, 12)], [((2, 84, 19), (0, 239), none)], [(84, 19), (84, 24), (84, 25), (97, 999), (98, 999)], [(none, [])], 1, 22)
theorem jm_12 (l : Launch) {tp : Nat → Int} {ln : Nat} {σ : Nat → Int} {cm : Nat} {wt : Nat → Int} {wn pl : Nat} (hc : cm ≤ 240) (hw : wn ≤ 240) : hk_ok l tQ (mV tp ln σ cm wt wn pl) (fun _ _ ws => mV tp ln (uN cm 12582912 σ) (cm + 1) (uN wn (12582912 + cm) wt) (wn + 1) (pl + 1) ws) kJ_12 := by
  refine hk_ok_of (o := 9) (r := (yX9_jumps, prog_11_method_27_code, 2, none)) rfl rfl (by decide +kernel) (by decide) rfl (fun p e s m args below meth c D tys aK aV b0 ad w0 C hret => ?_)
  refine ev_go_fact 84 25 (0, 259) rfl rfl (fun w hw h => by rw [h.2.2.2.1]; exact ⟨by dsimp only; omega, by dsimp only; omega⟩) ?_
  refine ev_go_fact 84 24 (0, 240) rfl rfl (fun w hw h => by rw [h.2.1]; exact ⟨by dsimp only; omega, by dsimp only; omega⟩) ?_
  refine hv_go C mV_hI [(84, 19), (84, 24), (84, 25), (97, 999), (98, 999)] [] (1, 22) [] [(17, [some (.inr 86, none), some (.inl (12, 12), none)], [(.inl (12582912, 12583152), (2, 84, 24, 12582912)), (.inl (0, 259), (2, 84, 25, 0)), (.inr 100, ev_nt)], [((2, 84, 19), (0, 239), none), ((2, 84, 25), (0, 259), none)], [])] 80 ⟨rfl, rfl⟩ (by decide +kernel) trivial ⟨?_, trivial⟩
  refine hs_ast C (I' := mV tp ln σ cm (uN wn (12582912 + cm) wt) wn pl) (t := (0, 260, -2147483648, 2147483647)) ?_ rfl rfl ?_ (by decide) (by decide) (by decide) (by decide +kernel) ?_
  · intro ls w w' i x hw hl hF hI hi ti hx tx i0 i1 hs hf
    have e : i.toInt = wn := by rw [tag_f ti, hI.2.2.2.1]; omega
    have e2 : x.toInt = 12582912 + cm := by rw [tag_f tx, hI.2.1]; omega
    have h := mV_s98 hI hs
    rw [e, e2] at h
    exact h
  · intro ls w i hw hl hF hI hi ti
    have e : i.toInt = wn := by rw [tag_f ti, hI.2.2.2.1]; omega
    exact ⟨by omega, by show i.toInt < 260; omega⟩
  · refine hv_go C mV_hI [(84, 19), (84, 24), (84, 25), (97, 999), (98, 999)] [] (1, 22) [] [(25, [some (.inr 86, none), some (.inl (12, 12), none)], [(.inl (1, 260), (2, 84, 25, 1)), (.inr 86, ev_nt)], [((2, 84, 19), (0, 239), none)], [])] 80 ⟨rfl, rfl⟩ (by decide +kernel) trivial ⟨?_, trivial⟩
    refine hs_put C (I' := mV tp ln σ cm (uN wn (12582912 + cm) wt) (wn + 1) pl) (i := 253) (ci := 9) (f := 25) (j := 84) (b := (-2147483648, 2147483647)) ?_ (by decide +kernel) rfl (by decide) rfl rfl (by decide) (by decide) (by decide) (by decide) (by decide +kernel) ?_
    · intro ls w w' z hw hl hF hI hz tz hp hf
      exact mV_p25 hI hp (by rw [tag_f tz, hI.2.2.2.1]; omega)
    · refine hv_go C mV_hI [(84, 19), (84, 24), (84, 25), (97, 999), (98, 999)] [] (1, 22) [] [(31, [some (.inr 86, none), some (.inl (12, 12), none)], [(.inl (0, 0), ev_nt), (.inl (12, 12), ev_nt), (.inr 86, ev_nt)], [((2, 84, 19), (0, 239), none)], [])] 80 ⟨rfl, rfl⟩ (by decide +kernel) trivial ⟨?_, trivial⟩
      refine hs_callV C (A := [(.inl (0, 0), ev_nt), (.inl (12, 12), ev_nt)]) (S := []) (j := 84) (i := 259) (mi := 151) (n := 2) (ci := 9) (E := fun _ => True) (nt_12 l (by omega)) (fun w h => ⟨h, trivial⟩) (fun _ _ _ h => h) (by decide +kernel) rfl rfl rfl (by decide) rfl (by decide) rfl rfl rfl (by decide) (by decide) (by decide) (by decide +kernel) (fun i u x hu hq => ?_)
      match i, hu with
      | 0, hu =>
        cases hu
        have hx0 : x = 0 := hq
        subst hx0
        refine ev_go_mono (I' := fun ws => ∃ y : Int, (12582912 ≤ y ∧ y ≤ 12582912) ∧ mV tp ln (uN cm y σ) (cm + 1) (uN wn (12582912 + cm) wt) (wn + 1) pl ws) (fun w h => h.1) (ev_go_exP (fun y hy => ?_))
        have e : y = 12582912 := by omega
        subst e
        refine hv_go C mV_hI [(84, 19), (84, 24), (84, 25), (97, 999), (98, 999)] [] (1, 22) [] [(41, [none, none], [(.inl (1, 240), (2, 84, 19, 1)), (.inr 86, ev_nt)], [], [])] 80 ⟨rfl, rfl⟩ (by decide +kernel) trivial ⟨?_, trivial⟩
        refine hs_put C (I' := mV tp ln (uN cm 12582912 σ) (cm + 1) (uN wn (12582912 + cm) wt) (wn + 1) (pl + 1)) (i := 222) (ci := 9) (f := 19) (j := 84) (b := (0, 240)) ?_ (by decide +kernel) rfl (by decide) rfl rfl (by decide) (by decide) (by decide) (by decide) (by decide +kernel) ?_
        · intro ls w w' z hw hl hF hI hz tz hp hf
          exact mV_p19 hI hp (by rw [tag_f tz, hI.2.2.2.2.1]; omega)
        · exact hs_vret C (i := 0) (fun ls w _ _ _ hI => hI) hret rfl rfl rfl rfl (by decide +kernel)
