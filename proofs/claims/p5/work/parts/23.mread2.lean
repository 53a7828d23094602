def kC_0 : ek := (154, [.inr 86, .inl (0, 0)], [], [(84, 24), (84, 25), (97, 999)], [(none, [])], 1, 22)
theorem cS_0 (l : Launch) {g : Nat → Int} {sg : Nat} {need how : Int} {B N : Prop} {tp : Nat → Int} {ln : Nat} {σ : Nat → Int} {cm : Nat} {wt : Nat → Int} {wn pl : Nat} (hz : pZ g sg need how B N σ cm wt wn pl) (hn : 1 ≤ need) (hh : 0 ≤ how) : hk_ok l tQ (mV tp ln σ cm wt wn pl) (fun _ _ ws => ∃ v : (Nat → Int) × Nat × Nat, (pZ g sg need how B N v.1 v.2.1 wt v.2.2 pl ∧ v.2.2 ≤ wn ∧ (∀ j, v.2.2 ≤ j → j < wn → (2 ≤ wt j / 1048576 ∧ wt j / 1048576 ≤ 6))) ∧ mV tp ln v.1 v.2.1 wt v.2.2 pl ws) kC_0 := by
  refine hk_ok_of (o := 9) (r := (yX9_closesSums, prog_11_method_21_code, 2, none)) rfl rfl (by decide +kernel) (by decide) rfl (fun p e s m args below meth c D tys aK aV b0 ad w0 C hret => ?_)
  refine ev_go_w (P := pl ≤ 240) (fun w hw h => mV_240 hw h) (fun hpl => ?_)
  have loop : ∀ (n : Nat) (σ : Nat → Int) (cm : Nat), n ≤ wn → (∀ j, n ≤ j → j < wn → (2 ≤ wt j / 1048576 ∧ wt j / 1048576 ≤ 6)) → pZ g sg need how B N σ cm wt n pl → ev_go p l e (ek_rm kC_0) s m args below meth c (MQ below (hk_qc D tys tQ (fun _ _ ws => ∃ v : (Nat → Int) × Nat × Nat, (pZ g sg need how B N v.1 v.2.1 wt v.2.2 pl ∧ v.2.2 ≤ wn ∧ (∀ j, v.2.2 ≤ j → j < wn → (2 ≤ wt j / 1048576 ∧ wt j / 1048576 ≤ 6))) ∧ mV tp ln v.1 v.2.1 wt v.2.2 pl ws) b0 ad w0 kC_0 false) args s 0 0 (fun q => b0 ≤ q)) D tys tQ (mV tp ln σ cm wt n pl) b0 2 ad w0 [(84, 24), (84, 25), (97, 999)] (fun _ => 0) (0, [some (.inr 86, none), some (.inl (0, 0), none)], [], [], []) := by
    intro n
    induction n with
    | zero =>
      intro σ cm hle hpop hz
      refine hv_go C mV_hI [(84, 24), (84, 25), (97, 999)] [kW (-1)] (1, 22) [] [(59, [none, none], [], [], [])] 80 ⟨rfl, rfl⟩ (by decide +kernel) ⟨wT l (-1) (Or.inl ⟨rfl, rfl⟩), trivial⟩ ⟨?_, trivial⟩
      exact hs_vret C (i := 0) (fun ls w _ _ _ hI => ⟨(σ, cm, 0), ⟨hz, hle, hpop⟩, hI⟩) hret rfl rfl rfl rfl (by decide +kernel)
    | succ n ih =>
      intro σ cm hle hpop hz
      obtain ⟨h1, h2⟩ := hz.2.2.2.2.2.2.1 n (by omega)
      have hb1 : n + 1 ≤ pl := hz.2.2.1
      have hb2 : (cm : Int) ≤ pl := by
        have := hz.2.2.2.1
        have := cnt_nn (q := qN) (wt := wt) (n + 1)
        omega
      have hx : wt n / 1048576 = 2 ∨ wt n / 1048576 = 3 ∨ wt n / 1048576 = 4 ∨ wt n / 1048576 = 5 ∨ wt n / 1048576 = 6 ∨ wt n / 1048576 = 10 ∨ wt n / 1048576 = 11 ∨ wt n / 1048576 = 12 ∨ wt n / 1048576 = 13 ∨ wt n / 1048576 = 14 := by omega
      rcases hx with hx | hx | hx | hx | hx | hx | hx | hx | hx | hx
      · refine hv_go C mV_hI [(84, 24), (84, 25), (97, 999)] [kW 2] (1, 22) [] [(59, [none, none], [], [], [])] 80 ⟨rfl, rfl⟩ (by decide +kernel) ⟨wT l 2 (Or.inr ⟨by omega, by omega, h1, hx.symm⟩), trivial⟩ ⟨?_, trivial⟩
        exact hs_vret C (i := 0) (fun ls w _ _ _ hI => ⟨(σ, cm, n + 1), ⟨hz, hle, hpop⟩, hI⟩) hret rfl rfl rfl rfl (by decide +kernel)
      · refine hv_go C mV_hI [(84, 24), (84, 25), (97, 999)] [kW 3] (1, 22) [] [(59, [none, none], [], [], [])] 80 ⟨rfl, rfl⟩ (by decide +kernel) ⟨wT l 3 (Or.inr ⟨by omega, by omega, h1, hx.symm⟩), trivial⟩ ⟨?_, trivial⟩
        exact hs_vret C (i := 0) (fun ls w _ _ _ hI => ⟨(σ, cm, n + 1), ⟨hz, hle, hpop⟩, hI⟩) hret rfl rfl rfl rfl (by decide +kernel)
      · refine hv_go C mV_hI [(84, 24), (84, 25), (97, 999)] [kW 4] (1, 22) [] [(43, [some (.inr 86, none), some (.inl (0, 0), none)], [(.inl (0, 0), ev_nt), (.inl (4, 4), ev_nt), (.inr 86, ev_nt)], [], [])] 80 ⟨rfl, rfl⟩ (by decide +kernel) ⟨wT l 4 (Or.inr ⟨by omega, by omega, h1, hx.symm⟩), trivial⟩ ⟨?_, trivial⟩
        refine hs_callV C (A := [(.inl (0, 0), ev_nt), (.inl (4, 4), ev_nt)]) (S := []) (j := 84) (i := 259) (mi := 151) (n := 2) (ci := 9) (E := fun _ => True) (nt_4 l (by omega)) (fun w h => ⟨h, trivial⟩) (fun _ _ _ h => h) (by decide +kernel) rfl rfl rfl (by decide) rfl (by decide) rfl rfl rfl (by decide) (by decide) (by decide) (by decide +kernel) (fun i u x hu hq => ?_)
        match i, hu with
        | 0, hu =>
          cases hu
          have hx0 : x = 0 := hq
          subst hx0
          refine ev_go_mono (I' := fun ws => ∃ y : Int, (4194304 ≤ y ∧ y ≤ 4194304) ∧ mV tp ln (uN cm y σ) (cm + 1) wt (n + 1) pl ws) (fun w h => h.1) (ev_go_exP (fun y hy => ?_))
          refine ev_go_fact 84 25 (1, 260) rfl rfl (fun w hw h => by rw [h.2.2.2.1]; exact ⟨by dsimp only; omega, by dsimp only; omega⟩) ?_
          refine hv_go C mV_hI [(84, 24), (84, 25), (97, 999)] [] (1, 22) [] [(53, [some (.inr 86, none), some (.inl (0, 0), none)], [(.inl (0, 259), (2, 84, 25, -1)), (.inr 86, ev_nt)], [], [])] 80 ⟨rfl, rfl⟩ (by decide +kernel) trivial ⟨?_, trivial⟩
          refine hs_put C (I' := mV tp ln (uN cm y σ) (cm + 1) wt n pl) (i := 253) (ci := 9) (f := 25) (j := 84) (b := (-2147483648, 2147483647)) ?_ (by decide +kernel) rfl (by decide) rfl rfl (by decide) (by decide) (by decide) (by decide) (by decide +kernel) ?_
          · intro ls w w' z hw hl hF hI hz tz hp hf
            exact mV_p25 hI hp (by rw [tag_f tz, hI.2.2.2.1]; omega)
          · refine hv_go C mV_hI [(84, 24), (84, 25), (97, 999)] [] (1, 22) [] [(0, [some (.inr 86, none), some (.inl (0, 0), none)], [], [], [])] 80 ⟨rfl, rfl⟩ (by decide +kernel) trivial ⟨?_, trivial⟩
            refine ih _ _ (by omega) (fun j hj1 hj2 => ?_) (pZ_bin hz hn (by omega) (by omega))
            rcases Nat.lt_or_ge n j with h9 | h9
            · exact hpop j h9 hj2
            · have e : j = n := by omega
              subst e
              exact by omega
      · refine hv_go C mV_hI [(84, 24), (84, 25), (97, 999)] [kW 5] (1, 22) [] [(43, [some (.inr 86, none), some (.inl (0, 0), none)], [(.inl (0, 0), ev_nt), (.inl (5, 5), ev_nt), (.inr 86, ev_nt)], [], [])] 80 ⟨rfl, rfl⟩ (by decide +kernel) ⟨wT l 5 (Or.inr ⟨by omega, by omega, h1, hx.symm⟩), trivial⟩ ⟨?_, trivial⟩
        refine hs_callV C (A := [(.inl (0, 0), ev_nt), (.inl (5, 5), ev_nt)]) (S := []) (j := 84) (i := 259) (mi := 151) (n := 2) (ci := 9) (E := fun _ => True) (nt_5 l (by omega)) (fun w h => ⟨h, trivial⟩) (fun _ _ _ h => h) (by decide +kernel) rfl rfl rfl (by decide) rfl (by decide) rfl rfl rfl (by decide) (by decide) (by decide) (by decide +kernel) (fun i u x hu hq => ?_)
        match i, hu with
        | 0, hu =>
          cases hu
          have hx0 : x = 0 := hq
          subst hx0
          refine ev_go_mono (I' := fun ws => ∃ y : Int, (5242880 ≤ y ∧ y ≤ 5242880) ∧ mV tp ln (uN cm y σ) (cm + 1) wt (n + 1) pl ws) (fun w h => h.1) (ev_go_exP (fun y hy => ?_))
          refine ev_go_fact 84 25 (1, 260) rfl rfl (fun w hw h => by rw [h.2.2.2.1]; exact ⟨by dsimp only; omega, by dsimp only; omega⟩) ?_
          refine hv_go C mV_hI [(84, 24), (84, 25), (97, 999)] [] (1, 22) [] [(53, [some (.inr 86, none), some (.inl (0, 0), none)], [(.inl (0, 259), (2, 84, 25, -1)), (.inr 86, ev_nt)], [], [])] 80 ⟨rfl, rfl⟩ (by decide +kernel) trivial ⟨?_, trivial⟩
          refine hs_put C (I' := mV tp ln (uN cm y σ) (cm + 1) wt n pl) (i := 253) (ci := 9) (f := 25) (j := 84) (b := (-2147483648, 2147483647)) ?_ (by decide +kernel) rfl (by decide) rfl rfl (by decide) (by decide) (by decide) (by decide) (by decide +kernel) ?_
          · intro ls w w' z hw hl hF hI hz tz hp hf
            exact mV_p25 hI hp (by rw [tag_f tz, hI.2.2.2.1]; omega)
          · refine hv_go C mV_hI [(84, 24), (84, 25), (97, 999)] [] (1, 22) [] [(0, [some (.inr 86, none), some (.inl (0, 0), none)], [], [], [])] 80 ⟨rfl, rfl⟩ (by decide +kernel) trivial ⟨?_, trivial⟩
            refine ih _ _ (by omega) (fun j hj1 hj2 => ?_) (pZ_bin hz hn (by omega) (by omega))
            rcases Nat.lt_or_ge n j with h9 | h9
            · exact hpop j h9 hj2
            · have e : j = n := by omega
              subst e
              exact by omega
      · refine hv_go C mV_hI [(84, 24), (84, 25), (97, 999)] [kW 6] (1, 22) [] [(43, [some (.inr 86, none), some (.inl (0, 0), none)], [(.inl (0, 0), ev_nt), (.inl (6, 6), ev_nt), (.inr 86, ev_nt)], [], [])] 80 ⟨rfl, rfl⟩ (by decide +kernel) ⟨wT l 6 (Or.inr ⟨by omega, by omega, h1, hx.symm⟩), trivial⟩ ⟨?_, trivial⟩
        refine hs_callV C (A := [(.inl (0, 0), ev_nt), (.inl (6, 6), ev_nt)]) (S := []) (j := 84) (i := 259) (mi := 151) (n := 2) (ci := 9) (E := fun _ => True) (nt_6 l (by omega)) (fun w h => ⟨h, trivial⟩) (fun _ _ _ h => h) (by decide +kernel) rfl rfl rfl (by decide) rfl (by decide) rfl rfl rfl (by decide) (by decide) (by decide) (by decide +kernel) (fun i u x hu hq => ?_)
        match i, hu with
        | 0, hu =>
          cases hu
          have hx0 : x = 0 := hq
          subst hx0
          refine ev_go_mono (I' := fun ws => ∃ y : Int, (6291456 ≤ y ∧ y ≤ 6291456) ∧ mV tp ln (uN cm y σ) (cm + 1) wt (n + 1) pl ws) (fun w h => h.1) (ev_go_exP (fun y hy => ?_))
          refine ev_go_fact 84 25 (1, 260) rfl rfl (fun w hw h => by rw [h.2.2.2.1]; exact ⟨by dsimp only; omega, by dsimp only; omega⟩) ?_
          refine hv_go C mV_hI [(84, 24), (84, 25), (97, 999)] [] (1, 22) [] [(53, [some (.inr 86, none), some (.inl (0, 0), none)], [(.inl (0, 259), (2, 84, 25, -1)), (.inr 86, ev_nt)], [], [])] 80 ⟨rfl, rfl⟩ (by decide +kernel) trivial ⟨?_, trivial⟩
          refine hs_put C (I' := mV tp ln (uN cm y σ) (cm + 1) wt n pl) (i := 253) (ci := 9) (f := 25) (j := 84) (b := (-2147483648, 2147483647)) ?_ (by decide +kernel) rfl (by decide) rfl rfl (by decide) (by decide) (by decide) (by decide) (by decide +kernel) ?_
          · intro ls w w' z hw hl hF hI hz tz hp hf
            exact mV_p25 hI hp (by rw [tag_f tz, hI.2.2.2.1]; omega)
          · refine hv_go C mV_hI [(84, 24), (84, 25), (97, 999)] [] (1, 22) [] [(0, [some (.inr 86, none), some (.inl (0, 0), none)], [], [], [])] 80 ⟨rfl, rfl⟩ (by decide +kernel) trivial ⟨?_, trivial⟩
            refine ih _ _ (by omega) (fun j hj1 hj2 => ?_) (pZ_bin hz hn (by omega) (by omega))
            rcases Nat.lt_or_ge n j with h9 | h9
            · exact hpop j h9 hj2
            · have e : j = n := by omega
              subst e
              exact by omega
      · refine hv_go C mV_hI [(84, 24), (84, 25), (97, 999)] [kW 10] (1, 22) [] [(59, [none, none], [], [], [])] 80 ⟨rfl, rfl⟩ (by decide +kernel) ⟨wT l 10 (Or.inr ⟨by omega, by omega, h1, hx.symm⟩), trivial⟩ ⟨?_, trivial⟩
        exact hs_vret C (i := 0) (fun ls w _ _ _ hI => ⟨(σ, cm, n + 1), ⟨hz, hle, hpop⟩, hI⟩) hret rfl rfl rfl rfl (by decide +kernel)
      · refine hv_go C mV_hI [(84, 24), (84, 25), (97, 999)] [kW 11] (1, 22) [] [(59, [none, none], [], [], [])] 80 ⟨rfl, rfl⟩ (by decide +kernel) ⟨wT l 11 (Or.inr ⟨by omega, by omega, h1, hx.symm⟩), trivial⟩ ⟨?_, trivial⟩
        exact hs_vret C (i := 0) (fun ls w _ _ _ hI => ⟨(σ, cm, n + 1), ⟨hz, hle, hpop⟩, hI⟩) hret rfl rfl rfl rfl (by decide +kernel)
      · refine hv_go C mV_hI [(84, 24), (84, 25), (97, 999)] [kW 12] (1, 22) [] [(59, [none, none], [], [], [])] 80 ⟨rfl, rfl⟩ (by decide +kernel) ⟨wT l 12 (Or.inr ⟨by omega, by omega, h1, hx.symm⟩), trivial⟩ ⟨?_, trivial⟩
        exact hs_vret C (i := 0) (fun ls w _ _ _ hI => ⟨(σ, cm, n + 1), ⟨hz, hle, hpop⟩, hI⟩) hret rfl rfl rfl rfl (by decide +kernel)
      · refine hv_go C mV_hI [(84, 24), (84, 25), (97, 999)] [kW 13] (1, 22) [] [(59, [none, none], [], [], [])] 80 ⟨rfl, rfl⟩ (by decide +kernel) ⟨wT l 13 (Or.inr ⟨by omega, by omega, h1, hx.symm⟩), trivial⟩ ⟨?_, trivial⟩
        exact hs_vret C (i := 0) (fun ls w _ _ _ hI => ⟨(σ, cm, n + 1), ⟨hz, hle, hpop⟩, hI⟩) hret rfl rfl rfl rfl (by decide +kernel)
      · refine hv_go C mV_hI [(84, 24), (84, 25), (97, 999)] [kW 14] (1, 22) [] [(59, [none, none], [], [], [])] 80 ⟨rfl, rfl⟩ (by decide +kernel) ⟨wT l 14 (Or.inr ⟨by omega, by omega, h1, hx.symm⟩), trivial⟩ ⟨?_, trivial⟩
        exact hs_vret C (i := 0) (fun ls w _ _ _ hI => ⟨(σ, cm, n + 1), ⟨hz, hle, hpop⟩, hI⟩) hret rfl rfl rfl rfl (by decide +kernel)
  exact loop wn σ cm (Nat.le_refl _) (fun j h1 h2 => absurd h2 (by omega)) hz
def kC_1 : ek := (154, [.inr 86, .inl (1, 1)], [], [(84, 24), (84, 25), (97, 999)], [(none, [])], 1, 22)
theorem cS_1 (l : Launch) {g : Nat → Int} {sg : Nat} {need how : Int} {B N : Prop} {tp : Nat → Int} {ln : Nat} {σ : Nat → Int} {cm : Nat} {wt : Nat → Int} {wn pl : Nat} (hz : pZ g sg need how B N σ cm wt wn pl) (hn : 1 ≤ need) (hh : 0 ≤ how) : hk_ok l tQ (mV tp ln σ cm wt wn pl) (fun _ _ ws => ∃ v : (Nat → Int) × Nat × Nat, (pZ g sg need how B N v.1 v.2.1 wt v.2.2 pl ∧ v.2.2 ≤ wn ∧ (∀ j, v.2.2 ≤ j → j < wn → (2 ≤ wt j / 1048576 ∧ wt j / 1048576 ≤ 6)) ∧ (v.2.2 = 0 ∨ ¬ (2 ≤ wt (v.2.2 - 1) / 1048576 ∧ wt (v.2.2 - 1) / 1048576 ≤ 6))) ∧ mV tp ln v.1 v.2.1 wt v.2.2 pl ws) kC_1 := by
  refine hk_ok_of (o := 9) (r := (yX9_closesSums, prog_11_method_21_code, 2, none)) rfl rfl (by decide +kernel) (by decide) rfl (fun p e s m args below meth c D tys aK aV b0 ad w0 C hret => ?_)
  refine ev_go_w (P := pl ≤ 240) (fun w hw h => mV_240 hw h) (fun hpl => ?_)
  have loop : ∀ (n : Nat) (σ : Nat → Int) (cm : Nat), n ≤ wn → (∀ j, n ≤ j → j < wn → (2 ≤ wt j / 1048576 ∧ wt j / 1048576 ≤ 6)) → pZ g sg need how B N σ cm wt n pl → ev_go p l e (ek_rm kC_1) s m args below meth c (MQ below (hk_qc D tys tQ (fun _ _ ws => ∃ v : (Nat → Int) × Nat × Nat, (pZ g sg need how B N v.1 v.2.1 wt v.2.2 pl ∧ v.2.2 ≤ wn ∧ (∀ j, v.2.2 ≤ j → j < wn → (2 ≤ wt j / 1048576 ∧ wt j / 1048576 ≤ 6)) ∧ (v.2.2 = 0 ∨ ¬ (2 ≤ wt (v.2.2 - 1) / 1048576 ∧ wt (v.2.2 - 1) / 1048576 ≤ 6))) ∧ mV tp ln v.1 v.2.1 wt v.2.2 pl ws) b0 ad w0 kC_1 false) args s 0 0 (fun q => b0 ≤ q)) D tys tQ (mV tp ln σ cm wt n pl) b0 2 ad w0 [(84, 24), (84, 25), (97, 999)] (fun _ => 0) (0, [some (.inr 86, none), some (.inl (1, 1), none)], [], [], []) := by
    intro n
    induction n with
    | zero =>
      intro σ cm hle hpop hz
      refine hv_go C mV_hI [(84, 24), (84, 25), (97, 999)] [kW (-1)] (1, 22) [] [(59, [none, none], [], [], [])] 80 ⟨rfl, rfl⟩ (by decide +kernel) ⟨wT l (-1) (Or.inl ⟨rfl, rfl⟩), trivial⟩ ⟨?_, trivial⟩
      exact hs_vret C (i := 0) (fun ls w _ _ _ hI => ⟨(σ, cm, 0), ⟨hz, hle, hpop, Or.inl rfl⟩, hI⟩) hret rfl rfl rfl rfl (by decide +kernel)
    | succ n ih =>
      intro σ cm hle hpop hz
      obtain ⟨h1, h2⟩ := hz.2.2.2.2.2.2.1 n (by omega)
      have hb1 : n + 1 ≤ pl := hz.2.2.1
      have hb2 : (cm : Int) ≤ pl := by
        have := hz.2.2.2.1
        have := cnt_nn (q := qN) (wt := wt) (n + 1)
        omega
      have hx : wt n / 1048576 = 2 ∨ wt n / 1048576 = 3 ∨ wt n / 1048576 = 4 ∨ wt n / 1048576 = 5 ∨ wt n / 1048576 = 6 ∨ wt n / 1048576 = 10 ∨ wt n / 1048576 = 11 ∨ wt n / 1048576 = 12 ∨ wt n / 1048576 = 13 ∨ wt n / 1048576 = 14 := by omega
      rcases hx with hx | hx | hx | hx | hx | hx | hx | hx | hx | hx
      · refine hv_go C mV_hI [(84, 24), (84, 25), (97, 999)] [kW 2] (1, 22) [] [(43, [some (.inr 86, none), some (.inl (1, 1), none)], [(.inl (0, 0), ev_nt), (.inl (2, 2), ev_nt), (.inr 86, ev_nt)], [], [])] 80 ⟨rfl, rfl⟩ (by decide +kernel) ⟨wT l 2 (Or.inr ⟨by omega, by omega, h1, hx.symm⟩), trivial⟩ ⟨?_, trivial⟩
        refine hs_callV C (A := [(.inl (0, 0), ev_nt), (.inl (2, 2), ev_nt)]) (S := []) (j := 84) (i := 259) (mi := 151) (n := 2) (ci := 9) (E := fun _ => True) (nt_2 l (by omega)) (fun w h => ⟨h, trivial⟩) (fun _ _ _ h => h) (by decide +kernel) rfl rfl rfl (by decide) rfl (by decide) rfl rfl rfl (by decide) (by decide) (by decide) (by decide +kernel) (fun i u x hu hq => ?_)
        match i, hu with
        | 0, hu =>
          cases hu
          have hx0 : x = 0 := hq
          subst hx0
          refine ev_go_mono (I' := fun ws => ∃ y : Int, (2097152 ≤ y ∧ y ≤ 2097152) ∧ mV tp ln (uN cm y σ) (cm + 1) wt (n + 1) pl ws) (fun w h => h.1) (ev_go_exP (fun y hy => ?_))
          refine ev_go_fact 84 25 (1, 260) rfl rfl (fun w hw h => by rw [h.2.2.2.1]; exact ⟨by dsimp only; omega, by dsimp only; omega⟩) ?_
          refine hv_go C mV_hI [(84, 24), (84, 25), (97, 999)] [] (1, 22) [] [(53, [some (.inr 86, none), some (.inl (1, 1), none)], [(.inl (0, 259), (2, 84, 25, -1)), (.inr 86, ev_nt)], [], [])] 80 ⟨rfl, rfl⟩ (by decide +kernel) trivial ⟨?_, trivial⟩
          refine hs_put C (I' := mV tp ln (uN cm y σ) (cm + 1) wt n pl) (i := 253) (ci := 9) (f := 25) (j := 84) (b := (-2147483648, 2147483647)) ?_ (by decide +kernel) rfl (by decide) rfl rfl (by decide) (by decide) (by decide) (by decide) (by decide +kernel) ?_
          · intro ls w w' z hw hl hF hI hz tz hp hf
            exact mV_p25 hI hp (by rw [tag_f tz, hI.2.2.2.1]; omega)
          · refine hv_go C mV_hI [(84, 24), (84, 25), (97, 999)] [] (1, 22) [] [(0, [some (.inr 86, none), some (.inl (1, 1), none)], [], [], [])] 80 ⟨rfl, rfl⟩ (by decide +kernel) trivial ⟨?_, trivial⟩
            refine ih _ _ (by omega) (fun j hj1 hj2 => ?_) (pZ_bin hz hn (by omega) (by omega))
            rcases Nat.lt_or_ge n j with h9 | h9
            · exact hpop j h9 hj2
            · have e : j = n := by omega
              subst e
              exact by omega
      · refine hv_go C mV_hI [(84, 24), (84, 25), (97, 999)] [kW 3] (1, 22) [] [(43, [some (.inr 86, none), some (.inl (1, 1), none)], [(.inl (0, 0), ev_nt), (.inl (3, 3), ev_nt), (.inr 86, ev_nt)], [], [])] 80 ⟨rfl, rfl⟩ (by decide +kernel) ⟨wT l 3 (Or.inr ⟨by omega, by omega, h1, hx.symm⟩), trivial⟩ ⟨?_, trivial⟩
        refine hs_callV C (A := [(.inl (0, 0), ev_nt), (.inl (3, 3), ev_nt)]) (S := []) (j := 84) (i := 259) (mi := 151) (n := 2) (ci := 9) (E := fun _ => True) (nt_3 l (by omega)) (fun w h => ⟨h, trivial⟩) (fun _ _ _ h => h) (by decide +kernel) rfl rfl rfl (by decide) rfl (by decide) rfl rfl rfl (by decide) (by decide) (by decide) (by decide +kernel) (fun i u x hu hq => ?_)
        match i, hu with
        | 0, hu =>
          cases hu
          have hx0 : x = 0 := hq
          subst hx0
          refine ev_go_mono (I' := fun ws => ∃ y : Int, (3145728 ≤ y ∧ y ≤ 3145728) ∧ mV tp ln (uN cm y σ) (cm + 1) wt (n + 1) pl ws) (fun w h => h.1) (ev_go_exP (fun y hy => ?_))
          refine ev_go_fact 84 25 (1, 260) rfl rfl (fun w hw h => by rw [h.2.2.2.1]; exact ⟨by dsimp only; omega, by dsimp only; omega⟩) ?_
          refine hv_go C mV_hI [(84, 24), (84, 25), (97, 999)] [] (1, 22) [] [(53, [some (.inr 86, none), some (.inl (1, 1), none)], [(.inl (0, 259), (2, 84, 25, -1)), (.inr 86, ev_nt)], [], [])] 80 ⟨rfl, rfl⟩ (by decide +kernel) trivial ⟨?_, trivial⟩
          refine hs_put C (I' := mV tp ln (uN cm y σ) (cm + 1) wt n pl) (i := 253) (ci := 9) (f := 25) (j := 84) (b := (-2147483648, 2147483647)) ?_ (by decide +kernel) rfl (by decide) rfl rfl (by decide) (by decide) (by decide) (by decide) (by decide +kernel) ?_
          · intro ls w w' z hw hl hF hI hz tz hp hf
            exact mV_p25 hI hp (by rw [tag_f tz, hI.2.2.2.1]; omega)
          · refine hv_go C mV_hI [(84, 24), (84, 25), (97, 999)] [] (1, 22) [] [(0, [some (.inr 86, none), some (.inl (1, 1), none)], [], [], [])] 80 ⟨rfl, rfl⟩ (by decide +kernel) trivial ⟨?_, trivial⟩
            refine ih _ _ (by omega) (fun j hj1 hj2 => ?_) (pZ_bin hz hn (by omega) (by omega))
            rcases Nat.lt_or_ge n j with h9 | h9
            · exact hpop j h9 hj2
            · have e : j = n := by omega
              subst e
              exact by omega
      · refine hv_go C mV_hI [(84, 24), (84, 25), (97, 999)] [kW 4] (1, 22) [] [(43, [some (.inr 86, none), some (.inl (1, 1), none)], [(.inl (0, 0), ev_nt), (.inl (4, 4), ev_nt), (.inr 86, ev_nt)], [], [])] 80 ⟨rfl, rfl⟩ (by decide +kernel) ⟨wT l 4 (Or.inr ⟨by omega, by omega, h1, hx.symm⟩), trivial⟩ ⟨?_, trivial⟩
        refine hs_callV C (A := [(.inl (0, 0), ev_nt), (.inl (4, 4), ev_nt)]) (S := []) (j := 84) (i := 259) (mi := 151) (n := 2) (ci := 9) (E := fun _ => True) (nt_4 l (by omega)) (fun w h => ⟨h, trivial⟩) (fun _ _ _ h => h) (by decide +kernel) rfl rfl rfl (by decide) rfl (by decide) rfl rfl rfl (by decide) (by decide) (by decide) (by decide +kernel) (fun i u x hu hq => ?_)
        match i, hu with
        | 0, hu =>
          cases hu
          have hx0 : x = 0 := hq
          subst hx0
          refine ev_go_mono (I' := fun ws => ∃ y : Int, (4194304 ≤ y ∧ y ≤ 4194304) ∧ mV tp ln (uN cm y σ) (cm + 1) wt (n + 1) pl ws) (fun w h => h.1) (ev_go_exP (fun y hy => ?_))
          refine ev_go_fact 84 25 (1, 260) rfl rfl (fun w hw h => by rw [h.2.2.2.1]; exact ⟨by dsimp only; omega, by dsimp only; omega⟩) ?_
          refine hv_go C mV_hI [(84, 24), (84, 25), (97, 999)] [] (1, 22) [] [(53, [some (.inr 86, none), some (.inl (1, 1), none)], [(.inl (0, 259), (2, 84, 25, -1)), (.inr 86, ev_nt)], [], [])] 80 ⟨rfl, rfl⟩ (by decide +kernel) trivial ⟨?_, trivial⟩
          refine hs_put C (I' := mV tp ln (uN cm y σ) (cm + 1) wt n pl) (i := 253) (ci := 9) (f := 25) (j := 84) (b := (-2147483648, 2147483647)) ?_ (by decide +kernel) rfl (by decide) rfl rfl (by decide) (by decide) (by decide) (by decide) (by decide +kernel) ?_
          · intro ls w w' z hw hl hF hI hz tz hp hf
            exact mV_p25 hI hp (by rw [tag_f tz, hI.2.2.2.1]; omega)
          · refine hv_go C mV_hI [(84, 24), (84, 25), (97, 999)] [] (1, 22) [] [(0, [some (.inr 86, none), some (.inl (1, 1), none)], [], [], [])] 80 ⟨rfl, rfl⟩ (by decide +kernel) trivial ⟨?_, trivial⟩
            refine ih _ _ (by omega) (fun j hj1 hj2 => ?_) (pZ_bin hz hn (by omega) (by omega))
            rcases Nat.lt_or_ge n j with h9 | h9
            · exact hpop j h9 hj2
            · have e : j = n := by omega
              subst e
              exact by omega
      · refine hv_go C mV_hI [(84, 24), (84, 25), (97, 999)] [kW 5] (1, 22) [] [(43, [some (.inr 86, none), some (.inl (1, 1), none)], [(.inl (0, 0), ev_nt), (.inl (5, 5), ev_nt), (.inr 86, ev_nt)], [], [])] 80 ⟨rfl, rfl⟩ (by decide +kernel) ⟨wT l 5 (Or.inr ⟨by omega, by omega, h1, hx.symm⟩), trivial⟩ ⟨?_, trivial⟩
        refine hs_callV C (A := [(.inl (0, 0), ev_nt), (.inl (5, 5), ev_nt)]) (S := []) (j := 84) (i := 259) (mi := 151) (n := 2) (ci := 9) (E := fun _ => True) (nt_5 l (by omega)) (fun w h => ⟨h, trivial⟩) (fun _ _ _ h => h) (by decide +kernel) rfl rfl rfl (by decide) rfl (by decide) rfl rfl rfl (by decide) (by decide) (by decide) (by decide +kernel) (fun i u x hu hq => ?_)
        match i, hu with
        | 0, hu =>
          cases hu
          have hx0 : x = 0 := hq
          subst hx0
          refine ev_go_mono (I' := fun ws => ∃ y : Int, (5242880 ≤ y ∧ y ≤ 5242880) ∧ mV tp ln (uN cm y σ) (cm + 1) wt (n + 1) pl ws) (fun w h => h.1) (ev_go_exP (fun y hy => ?_))
          refine ev_go_fact 84 25 (1, 260) rfl rfl (fun w hw h => by rw [h.2.2.2.1]; exact ⟨by dsimp only; omega, by dsimp only; omega⟩) ?_
          refine hv_go C mV_hI [(84, 24), (84, 25), (97, 999)] [] (1, 22) [] [(53, [some (.inr 86, none), some (.inl (1, 1), none)], [(.inl (0, 259), (2, 84, 25, -1)), (.inr 86, ev_nt)], [], [])] 80 ⟨rfl, rfl⟩ (by decide +kernel) trivial ⟨?_, trivial⟩
          refine hs_put C (I' := mV tp ln (uN cm y σ) (cm + 1) wt n pl) (i := 253) (ci := 9) (f := 25) (j := 84) (b := (-2147483648, 2147483647)) ?_ (by decide +kernel) rfl (by decide) rfl rfl (by decide) (by decide) (by decide) (by decide) (by decide +kernel) ?_
          · intro ls w w' z hw hl hF hI hz tz hp hf
            exact mV_p25 hI hp (by rw [tag_f tz, hI.2.2.2.1]; omega)
          · refine hv_go C mV_hI [(84, 24), (84, 25), (97, 999)] [] (1, 22) [] [(0, [some (.inr 86, none), some (.inl (1, 1), none)], [], [], [])] 80 ⟨rfl, rfl⟩ (by decide +kernel) trivial ⟨?_, trivial⟩
            refine ih _ _ (by omega) (fun j hj1 hj2 => ?_) (pZ_bin hz hn (by omega) (by omega))
            rcases Nat.lt_or_ge n j with h9 | h9
            · exact hpop j h9 hj2
            · have e : j = n := by omega
              subst e
              exact by omega
      · refine hv_go C mV_hI [(84, 24), (84, 25), (97, 999)] [kW 6] (1, 22) [] [(43, [some (.inr 86, none), some (.inl (1, 1), none)], [(.inl (0, 0), ev_nt), (.inl (6, 6), ev_nt), (.inr 86, ev_nt)], [], [])] 80 ⟨rfl, rfl⟩ (by decide +kernel) ⟨wT l 6 (Or.inr ⟨by omega, by omega, h1, hx.symm⟩), trivial⟩ ⟨?_, trivial⟩
        refine hs_callV C (A := [(.inl (0, 0), ev_nt), (.inl (6, 6), ev_nt)]) (S := []) (j := 84) (i := 259) (mi := 151) (n := 2) (ci := 9) (E := fun _ => True) (nt_6 l (by omega)) (fun w h => ⟨h, trivial⟩) (fun _ _ _ h => h) (by decide +kernel) rfl rfl rfl (by decide) rfl (by decide) rfl rfl rfl (by decide) (by decide) (by decide) (by decide +kernel) (fun i u x hu hq => ?_)
        match i, hu with
        | 0, hu =>
          cases hu
          have hx0 : x = 0 := hq
          subst hx0
          refine ev_go_mono (I' := fun ws => ∃ y : Int, (6291456 ≤ y ∧ y ≤ 6291456) ∧ mV tp ln (uN cm y σ) (cm + 1) wt (n + 1) pl ws) (fun w h => h.1) (ev_go_exP (fun y hy => ?_))
          refine ev_go_fact 84 25 (1, 260) rfl rfl (fun w hw h => by rw [h.2.2.2.1]; exact ⟨by dsimp only; omega, by dsimp only; omega⟩) ?_
          refine hv_go C mV_hI [(84, 24), (84, 25), (97, 999)] [] (1, 22) [] [(53, [some (.inr 86, none), some (.inl (1, 1), none)], [(.inl (0, 259), (2, 84, 25, -1)), (.inr 86, ev_nt)], [], [])] 80 ⟨rfl, rfl⟩ (by decide +kernel) trivial ⟨?_, trivial⟩
          refine hs_put C (I' := mV tp ln (uN cm y σ) (cm + 1) wt n pl) (i := 253) (ci := 9) (f := 25) (j := 84) (b := (-2147483648, 2147483647)) ?_ (by decide +kernel) rfl (by decide) rfl rfl (by decide) (by decide) (by decide) (by decide) (by decide +kernel) ?_
          · intro ls w w' z hw hl hF hI hz tz hp hf
            exact mV_p25 hI hp (by rw [tag_f tz, hI.2.2.2.1]; omega)
          · refine hv_go C mV_hI [(84, 24), (84, 25), (97, 999)] [] (1, 22) [] [(0, [some (.inr 86, none), some (.inl (1, 1), none)], [], [], [])] 80 ⟨rfl, rfl⟩ (by decide +kernel) trivial ⟨?_, trivial⟩
            refine ih _ _ (by omega) (fun j hj1 hj2 => ?_) (pZ_bin hz hn (by omega) (by omega))
            rcases Nat.lt_or_ge n j with h9 | h9
            · exact hpop j h9 hj2
            · have e : j = n := by omega
              subst e
              exact by omega
      · refine hv_go C mV_hI [(84, 24), (84, 25), (97, 999)] [kW 10] (1, 22) [] [(59, [none, none], [], [], [])] 80 ⟨rfl, rfl⟩ (by decide +kernel) ⟨wT l 10 (Or.inr ⟨by omega, by omega, h1, hx.symm⟩), trivial⟩ ⟨?_, trivial⟩
        exact hs_vret C (i := 0) (fun ls w _ _ _ hI => ⟨(σ, cm, n + 1), ⟨hz, hle, hpop, Or.inr (by show ¬ (2 ≤ wt n / 1048576 ∧ wt n / 1048576 ≤ 6); omega)⟩, hI⟩) hret rfl rfl rfl rfl (by decide +kernel)
      · refine hv_go C mV_hI [(84, 24), (84, 25), (97, 999)] [kW 11] (1, 22) [] [(59, [none, none], [], [], [])] 80 ⟨rfl, rfl⟩ (by decide +kernel) ⟨wT l 11 (Or.inr ⟨by omega, by omega, h1, hx.symm⟩), trivial⟩ ⟨?_, trivial⟩
        exact hs_vret C (i := 0) (fun ls w _ _ _ hI => ⟨(σ, cm, n + 1), ⟨hz, hle, hpop, Or.inr (by show ¬ (2 ≤ wt n / 1048576 ∧ wt n / 1048576 ≤ 6); omega)⟩, hI⟩) hret rfl rfl rfl rfl (by decide +kernel)
      · refine hv_go C mV_hI [(84, 24), (84, 25), (97, 999)] [kW 12] (1, 22) [] [(59, [none, none], [], [], [])] 80 ⟨rfl, rfl⟩ (by decide +kernel) ⟨wT l 12 (Or.inr ⟨by omega, by omega, h1, hx.symm⟩), trivial⟩ ⟨?_, trivial⟩
        exact hs_vret C (i := 0) (fun ls w _ _ _ hI => ⟨(σ, cm, n + 1), ⟨hz, hle, hpop, Or.inr (by show ¬ (2 ≤ wt n / 1048576 ∧ wt n / 1048576 ≤ 6); omega)⟩, hI⟩) hret rfl rfl rfl rfl (by decide +kernel)
      · refine hv_go C mV_hI [(84, 24), (84, 25), (97, 999)] [kW 13] (1, 22) [] [(59, [none, none], [], [], [])] 80 ⟨rfl, rfl⟩ (by decide +kernel) ⟨wT l 13 (Or.inr ⟨by omega, by omega, h1, hx.symm⟩), trivial⟩ ⟨?_, trivial⟩
        exact hs_vret C (i := 0) (fun ls w _ _ _ hI => ⟨(σ, cm, n + 1), ⟨hz, hle, hpop, Or.inr (by show ¬ (2 ≤ wt n / 1048576 ∧ wt n / 1048576 ≤ 6); omega)⟩, hI⟩) hret rfl rfl rfl rfl (by decide +kernel)
      · refine hv_go C mV_hI [(84, 24), (84, 25), (97, 999)] [kW 14] (1, 22) [] [(59, [none, none], [], [], [])] 80 ⟨rfl, rfl⟩ (by decide +kernel) ⟨wT l 14 (Or.inr ⟨by omega, by omega, h1, hx.symm⟩), trivial⟩ ⟨?_, trivial⟩
        exact hs_vret C (i := 0) (fun ls w _ _ _ hI => ⟨(σ, cm, n + 1), ⟨hz, hle, hpop, Or.inr (by show ¬ (2 ≤ wt n / 1048576 ∧ wt n / 1048576 ≤ 6); omega)⟩, hI⟩) hret rfl rfl rfl rfl (by decide +kernel)
  exact loop wn σ cm (Nat.le_refl _) (fun j h1 h2 => absurd h2 (by omega)) hz
def kE : ek := (159, [.inr 86], [], [(84, 23), (84, 24), (84, 25), (97, 999)], [(none, [])], 1, 22)
theorem eP (l : Launch) {g : Nat → Int} {sg : Nat} {B N : Prop} {tp : Nat → Int} {ln : Nat} {σ : Nat → Int} {cm : Nat} {wt : Nat → Int} {wn pl : Nat} (hz : pZ g sg 1 0 B N σ cm wt wn pl) : hk_ok l tQ (mV tp ln σ cm wt wn pl) (fun _ _ ws => ∃ v : (Nat → Int) × Nat × Nat, pZ g sg 1 0 B N v.1 v.2.1 wt v.2.2 pl ∧ mV tp ln v.1 v.2.1 wt v.2.2 pl ws) kE := by
  refine hk_ok_of (o := 9) (r := (yX9_endsPiece, prog_11_method_25_code, 1, none)) rfl rfl (by decide +kernel) (by decide) rfl (fun p e s m args below meth c D tys aK aV b0 ad w0 C hret => ?_)
  refine ev_go_w (P := pl ≤ 240) (fun w hw h => mV_240 hw h) (fun hpl => ?_)
  have loop : ∀ (n : Nat) (σ : Nat → Int) (cm : Nat), pZ g sg 1 0 B N σ cm wt n pl → ev_go p l e (ek_rm kE) s m args below meth c (MQ below (hk_qc D tys tQ (fun _ _ ws => ∃ v : (Nat → Int) × Nat × Nat, pZ g sg 1 0 B N v.1 v.2.1 wt v.2.2 pl ∧ mV tp ln v.1 v.2.1 wt v.2.2 pl ws) b0 ad w0 kE false) args s 0 0 (fun q => b0 ≤ q)) D tys tQ (mV tp ln σ cm wt n pl) b0 1 ad w0 [(84, 23), (84, 24), (84, 25), (97, 999)] (fun _ => 0) (0, [some (.inr 86, none)], [], [], []) := by
    intro n
    induction n with
    | zero =>
      intro σ cm hz
      refine hv_go C mV_hI [(84, 23), (84, 24), (84, 25), (97, 999)] [kW (-1)] (1, 22) [] [(39, [none], [], [], [])] 80 ⟨rfl, rfl⟩ (by decide +kernel) ⟨wT l (-1) (Or.inl ⟨rfl, rfl⟩), trivial⟩ ⟨?_, trivial⟩
      exact hs_vret C (i := 0) (fun ls w _ _ _ hI => ⟨(σ, cm, 0), hz, hI⟩) hret rfl rfl rfl rfl (by decide +kernel)
    | succ n ih =>
      intro σ cm hz
      obtain ⟨h1, h2⟩ := hz.2.2.2.2.2.2.1 n (by omega)
      have hb1 : n + 1 ≤ pl := hz.2.2.1
      have hb2 : (cm : Int) ≤ pl := by
        have := hz.2.2.2.1
        have := cnt_nn (q := qN) (wt := wt) (n + 1)
        omega
      have hx : wt n / 1048576 = 2 ∨ wt n / 1048576 = 3 ∨ wt n / 1048576 = 4 ∨ wt n / 1048576 = 5 ∨ wt n / 1048576 = 6 ∨ wt n / 1048576 = 10 ∨ wt n / 1048576 = 11 ∨ wt n / 1048576 = 12 ∨ wt n / 1048576 = 13 ∨ wt n / 1048576 = 14 := by omega
      rcases hx with hx | hx | hx | hx | hx | hx | hx | hx | hx | hx
      · refine hv_go C mV_hI [(84, 23), (84, 24), (84, 25), (97, 999)] [kW 2] (1, 22) [] [(39, [none], [], [], [])] 80 ⟨rfl, rfl⟩ (by decide +kernel) ⟨wT l 2 (Or.inr ⟨by omega, by omega, h1, hx.symm⟩), trivial⟩ ⟨?_, trivial⟩
        exact hs_vret C (i := 0) (fun ls w _ _ _ hI => ⟨(σ, cm, n + 1), hz, hI⟩) hret rfl rfl rfl rfl (by decide +kernel)
      · refine hv_go C mV_hI [(84, 23), (84, 24), (84, 25), (97, 999)] [kW 3] (1, 22) [] [(39, [none], [], [], [])] 80 ⟨rfl, rfl⟩ (by decide +kernel) ⟨wT l 3 (Or.inr ⟨by omega, by omega, h1, hx.symm⟩), trivial⟩ ⟨?_, trivial⟩
        exact hs_vret C (i := 0) (fun ls w _ _ _ hI => ⟨(σ, cm, n + 1), hz, hI⟩) hret rfl rfl rfl rfl (by decide +kernel)
      · refine hv_go C mV_hI [(84, 23), (84, 24), (84, 25), (97, 999)] [kW 4] (1, 22) [] [(39, [none], [], [], [])] 80 ⟨rfl, rfl⟩ (by decide +kernel) ⟨wT l 4 (Or.inr ⟨by omega, by omega, h1, hx.symm⟩), trivial⟩ ⟨?_, trivial⟩
        exact hs_vret C (i := 0) (fun ls w _ _ _ hI => ⟨(σ, cm, n + 1), hz, hI⟩) hret rfl rfl rfl rfl (by decide +kernel)
      · refine hv_go C mV_hI [(84, 23), (84, 24), (84, 25), (97, 999)] [kW 5] (1, 22) [] [(39, [none], [], [], [])] 80 ⟨rfl, rfl⟩ (by decide +kernel) ⟨wT l 5 (Or.inr ⟨by omega, by omega, h1, hx.symm⟩), trivial⟩ ⟨?_, trivial⟩
        exact hs_vret C (i := 0) (fun ls w _ _ _ hI => ⟨(σ, cm, n + 1), hz, hI⟩) hret rfl rfl rfl rfl (by decide +kernel)
      · refine hv_go C mV_hI [(84, 23), (84, 24), (84, 25), (97, 999)] [kW 6] (1, 22) [] [(39, [none], [], [], [])] 80 ⟨rfl, rfl⟩ (by decide +kernel) ⟨wT l 6 (Or.inr ⟨by omega, by omega, h1, hx.symm⟩), trivial⟩ ⟨?_, trivial⟩
        exact hs_vret C (i := 0) (fun ls w _ _ _ hI => ⟨(σ, cm, n + 1), hz, hI⟩) hret rfl rfl rfl rfl (by decide +kernel)
      · refine hv_go C mV_hI [(84, 23), (84, 24), (84, 25), (97, 999)] [kW 10] (1, 22) [] [(13, [some (.inr 86, none)], [(.inl (0, 0), ev_nt), (.inl (10, 10), ev_nt), (.inr 86, ev_nt)], [], [])] 80 ⟨rfl, rfl⟩ (by decide +kernel) ⟨wT l 10 (Or.inr ⟨by omega, by omega, h1, hx.symm⟩), trivial⟩ ⟨?_, trivial⟩
        refine hs_callV C (A := [(.inl (0, 0), ev_nt), (.inl (10, 10), ev_nt)]) (S := []) (j := 84) (i := 259) (mi := 151) (n := 2) (ci := 9) (E := fun _ => True) (nt_10 l (by omega)) (fun w h => ⟨h, trivial⟩) (fun _ _ _ h => h) (by decide +kernel) rfl rfl rfl (by decide) rfl (by decide) rfl rfl rfl (by decide) (by decide) (by decide) (by decide +kernel) (fun i u x hu hq => ?_)
        match i, hu with
        | 0, hu =>
          cases hu
          have hx0 : x = 0 := hq
          subst hx0
          refine ev_go_mono (I' := fun ws => ∃ y : Int, (10485760 ≤ y ∧ y ≤ 10485760) ∧ mV tp ln (uN cm y σ) (cm + 1) wt (n + 1) pl ws) (fun w h => h.1) (ev_go_exP (fun y hy => ?_))
          refine ev_go_fact 84 25 (1, 260) rfl rfl (fun w hw h => by rw [h.2.2.2.1]; exact ⟨by dsimp only; omega, by dsimp only; omega⟩) ?_
          refine hv_go C mV_hI [(84, 23), (84, 24), (84, 25), (97, 999)] [] (1, 22) [] [(23, [some (.inr 86, none)], [(.inl (0, 259), (2, 84, 25, -1)), (.inr 86, ev_nt)], [], [])] 80 ⟨rfl, rfl⟩ (by decide +kernel) trivial ⟨?_, trivial⟩
          refine hs_put C (I' := mV tp ln (uN cm y σ) (cm + 1) wt n pl) (i := 253) (ci := 9) (f := 25) (j := 84) (b := (-2147483648, 2147483647)) ?_ (by decide +kernel) rfl (by decide) rfl rfl (by decide) (by decide) (by decide) (by decide) (by decide +kernel) ?_
          · intro ls w w' z hw hl hF hI hz tz hp hf
            exact mV_p25 hI hp (by rw [tag_f tz, hI.2.2.2.1]; omega)
          · refine hv_go C mV_hI [(84, 23), (84, 24), (84, 25), (97, 999)] [] (1, 22) [] [(0, [some (.inr 86, none)], [], [], [])] 80 ⟨rfl, rfl⟩ (by decide +kernel) trivial ⟨?_, trivial⟩
            have e : y = 10485760 := by omega
            subst e
            exact ih _ _ (pZ_not hz (by omega) hx)
      · refine hv_go C mV_hI [(84, 23), (84, 24), (84, 25), (97, 999)] [kW 11] (1, 22) [] [(39, [none], [], [], [])] 80 ⟨rfl, rfl⟩ (by decide +kernel) ⟨wT l 11 (Or.inr ⟨by omega, by omega, h1, hx.symm⟩), trivial⟩ ⟨?_, trivial⟩
        exact hs_vret C (i := 0) (fun ls w _ _ _ hI => ⟨(σ, cm, n + 1), hz, hI⟩) hret rfl rfl rfl rfl (by decide +kernel)
      · refine hv_go C mV_hI [(84, 23), (84, 24), (84, 25), (97, 999)] [kW 12] (1, 22) [] [(39, [none], [], [], [])] 80 ⟨rfl, rfl⟩ (by decide +kernel) ⟨wT l 12 (Or.inr ⟨by omega, by omega, h1, hx.symm⟩), trivial⟩ ⟨?_, trivial⟩
        exact hs_vret C (i := 0) (fun ls w _ _ _ hI => ⟨(σ, cm, n + 1), hz, hI⟩) hret rfl rfl rfl rfl (by decide +kernel)
      · refine hv_go C mV_hI [(84, 23), (84, 24), (84, 25), (97, 999)] [kW 13] (1, 22) [] [(39, [none], [], [], [])] 80 ⟨rfl, rfl⟩ (by decide +kernel) ⟨wT l 13 (Or.inr ⟨by omega, by omega, h1, hx.symm⟩), trivial⟩ ⟨?_, trivial⟩
        exact hs_vret C (i := 0) (fun ls w _ _ _ hI => ⟨(σ, cm, n + 1), hz, hI⟩) hret rfl rfl rfl rfl (by decide +kernel)
      · refine hv_go C mV_hI [(84, 23), (84, 24), (84, 25), (97, 999)] [kW 14] (1, 22) [] [(39, [none], [], [], [])] 80 ⟨rfl, rfl⟩ (by decide +kernel) ⟨wT l 14 (Or.inr ⟨by omega, by omega, h1, hx.symm⟩), trivial⟩ ⟨?_, trivial⟩
        exact hs_vret C (i := 0) (fun ls w _ _ _ hI => ⟨(σ, cm, n + 1), hz, hI⟩) hret rfl rfl rfl rfl (by decide +kernel)
  exact loop wn σ cm hz
def kH (b : Int) : ek := (156, [.inr 86, .inl (b, b)], [], [], [(some (.inl (0, 0)), []), (some (.inl (1, 1)), [])], 0, 0)
theorem hO (l : Launch) {tp : Nat → Int} {ln : Nat} {σ : Nat → Int} {cm : Nat} {wt : Nat → Int} {wn pl : Nat} (b : Nat) (hb : b ≤ 240) (hw : wn ≤ 240) (hE : ∀ j, j < wn → 0 ≤ wt j ∧ wt j / 1048576 ≤ 14) : hk_ok l tQ (mV tp ln σ cm wt wn pl) (fun i _ ws => ((i = 0 ∧ ∀ j, b ≤ j → j < wn → wt j / 1048576 ≠ 14) ∨ (i = 1 ∧ ∃ j, b ≤ j ∧ j < wn ∧ wt j / 1048576 = 14)) ∧ mV tp ln σ cm wt wn pl ws) (kH b) := by
  refine hk_ok_of (o := 9) (r := (yX9_hasOpenSum, prog_11_method_23_code, 3, some .boolean)) rfl rfl (by decide +kernel) (Nat.le_of_ble_eq_true rfl) rfl (fun p e s m args below meth c D tys aK aV b0 ad w0 C hret => ?_)
  have loop : ∀ (d k : Nat) (γ : Nat → Int), wn - k = d → b ≤ k → k ≤ 240 → (∀ j, b ≤ j → j < k → j < wn → wt j / 1048576 ≠ 14) → γ 0 = (k : Int) → ev_go p l e (ek_rm (kH b)) s m args below meth c (MQ below (hk_qc D tys tQ (fun i _ ws => ((i = 0 ∧ ∀ j, b ≤ j → j < wn → wt j / 1048576 ≠ 14) ∨ (i = 1 ∧ ∃ j, b ≤ j ∧ j < wn ∧ wt j / 1048576 = 14)) ∧ mV tp ln σ cm wt wn pl ws) b0 ad w0 (kH b) true) args s 0 0 (fun q => b0 ≤ q)) D tys tQ (mV tp ln σ cm wt wn pl) b0 3 ad w0 [] γ (2, [some (.inr 86, none), none, some (.inl (0, 260), some (0, 0))], [], [], []) := by
    intro d
    induction d with
    | zero =>
      intro k γ hd hbk hk hno hγ
      refine hv_go C mV_hI [] [] (0, 0) [] [(7, [some (.inr 86, none), none, some (.inl (0, 260), some (0, 0))], [(.inl (-2147483648, 2147483647), (2, 84, 25, 0)), (.inl (0, 260), (1, 2, 0, 0))], [], [])] 80 ⟨rfl, rfl⟩ (by decide +kernel) trivial ⟨?_, trivial⟩
      refine hs_icmp C (cd := .ge) (off := 25) (k : Int) (wn : Int) (fun ls w x y hw hl hF hI hx tx hy ty => ?_) (by decide) (by decide +kernel) (fun hc => ?_) (fun hc => ?_)
      · obtain ⟨u, g1, g2⟩ := tag_l tx
        have g3 := lo_mark (i := 2) hl rfl g1
        exact ⟨by omega, by rw [tag_f ty, hI.2.2.2.1]; omega⟩
      · refine hv_go C mV_hI [] [] (0, 0) [] [(33, [none, none, none], [(.inl (0, 0), ev_nt)], [], [])] 80 ⟨rfl, rfl⟩ (by decide +kernel) trivial ⟨?_, trivial⟩
        exact hs_iret C (i := 0) (fun ls w x _ _ _ hI hx _ => ⟨Or.inl ⟨rfl, fun j hj1 hj2 => hno j hj1 (by have hc : (wn : Int) ≤ k := hc; omega) hj2⟩, hI⟩) hret rfl rfl rfl (by decide) rfl rfl rfl (by decide +kernel)
      · have hc : ¬ ((wn : Int) ≤ k) := hc
        omega
    | succ d ih =>
      intro k γ hd hbk hk hno hγ
      refine hv_go C mV_hI [] [] (0, 0) [] [(7, [some (.inr 86, none), none, some (.inl (0, 260), some (0, 0))], [(.inl (-2147483648, 2147483647), (2, 84, 25, 0)), (.inl (0, 260), (1, 2, 0, 0))], [], [])] 80 ⟨rfl, rfl⟩ (by decide +kernel) trivial ⟨?_, trivial⟩
      refine hs_icmp C (cd := .ge) (off := 25) (k : Int) (wn : Int) (fun ls w x y hw hl hF hI hx tx hy ty => ?_) (by decide) (by decide +kernel) (fun hc => ?_) (fun hc => ?_)
      · obtain ⟨u, g1, g2⟩ := tag_l tx
        have g3 := lo_mark (i := 2) hl rfl g1
        exact ⟨by omega, by rw [tag_f ty, hI.2.2.2.1]; omega⟩
      · have hc : (wn : Int) ≤ k := hc
        omega
      · refine ev_go_lset (i := 2) (n := 0) (d := 0) (q' := (0, 239)) rfl ⟨by dsimp only; omega, by dsimp only; omega⟩ ?_
        refine hv_go C mV_hI [] [] (0, 0) [] [(15, [some (.inr 86, none), none, some (.inl (0, 239), some (0, 0))], [(.inl (0, 239), (1, 2, 0, 0)), (.inr 100, ev_nt)], [], [])] 80 ⟨rfl, rfl⟩ (by decide +kernel) trivial ⟨?_, trivial⟩
        obtain ⟨h1, h2⟩ := hE k (by omega)
        by_cases h14 : wt k / 1048576 = 14
        · refine hs_ald C (I' := mV tp ln σ cm wt wn pl) (b := (14680064, 15728639)) (t := (0, 260, -2147483648, 2147483647)) ?_ rfl rfl ?_ (by decide +kernel) ?_
          · intro ls w i x hw hl hF hI hi ti i0 i1 hx hb
            obtain ⟨u, g1, g2⟩ := tag_l ti
            have g3 := lo_mark (i := 2) hl rfl g1
            have e2 : i.toInt.toNat = k := by omega
            rw [hI.2.2.1, e2] at hx
            exact ⟨hI, by show 14680064 ≤ x.toInt; omega, by show x.toInt ≤ 15728639; omega⟩
          · intro ls w i hw hl hF hI hi ti
            obtain ⟨a1, a2⟩ := hi
            dsimp only at a1 a2
            exact ⟨by omega, by show i.toInt < 260; omega⟩
          · refine hv_go C mV_hI [] [] (0, 0) [] [(25, [none, none, none], [(.inl (1, 1), ev_nt)], [], [])] 80 ⟨rfl, rfl⟩ (by decide +kernel) trivial ⟨?_, trivial⟩
            exact hs_iret C (i := 1) (fun ls w x _ _ _ hI hx _ => ⟨Or.inr ⟨rfl, k, hbk, by omega, h14⟩, hI⟩) hret rfl rfl rfl (by decide) rfl rfl rfl (by decide +kernel)
        · refine hs_ald C (I' := mV tp ln σ cm wt wn pl) (b := (0, 14680063)) (t := (0, 260, -2147483648, 2147483647)) ?_ rfl rfl ?_ (by decide +kernel) ?_
          · intro ls w i x hw hl hF hI hi ti i0 i1 hx hb
            obtain ⟨u, g1, g2⟩ := tag_l ti
            have g3 := lo_mark (i := 2) hl rfl g1
            have e2 : i.toInt.toNat = k := by omega
            rw [hI.2.2.1, e2] at hx
            exact ⟨hI, by show 0 ≤ x.toInt; omega, by show x.toInt ≤ 14680063; omega⟩
          · intro ls w i hw hl hF hI hi ti
            obtain ⟨a1, a2⟩ := hi
            dsimp only at a1 a2
            exact ⟨by omega, by show i.toInt < 260; omega⟩
          · refine hv_go C mV_hI [] [] (0, 0) [] [(2, [some (.inr 86, none), none, some (.inl (0, 260), some (0, 1))], [], [], [])] 80 ⟨rfl, rfl⟩ (by decide +kernel) trivial ⟨?_, trivial⟩
            refine ev_go_re (i := 2) (n := 0) (d := 1) (γ' := fun _ => (k : Int) + 1) rfl rfl (by rw [hγ]) ?_
            refine ih (k + 1) (fun _ => (k : Int) + 1) (by omega) (by omega) (by omega) (fun j hj1 hj2 hj3 => ?_) (by simp)
            rcases Nat.lt_or_ge j k with h9 | h9
            · exact hno j hj1 h9 hj3
            · have e : j = k := by omega
              subst e
              exact h14
  refine ev_op_ok C mV_hI (K := []) (rm := (0, 0)) (fun _ h => absurd h List.not_mem_nil) ⟨rfl, rfl⟩ (op := .iload_n 1) (len := 1) (by decide +kernel) rfl (fun st hst => ?_)
  rw [List.mem_singleton.mp hst]
  refine ev_op_ok C mV_hI (K := []) (rm := (0, 0)) (fun _ h => absurd h List.not_mem_nil) ⟨rfl, rfl⟩ (op := .istore_n 2) (len := 1) (by decide +kernel) rfl (fun st hst => ?_)
  rw [List.mem_singleton.mp hst]
  refine ev_go_gam (γ' := fun _ => (b : Int)) rfl ?_
  refine ev_go_mark (i := 2) (n := 0) (q' := (0, 260)) (v := (b : Int)) rfl ⟨by dsimp only; omega, by dsimp only; omega⟩ rfl ?_
  refine ev_go_drop 1 ?_
  exact loop (wn - b) b (fun _ => (b : Int)) rfl (Nat.le_refl _) hb (fun j h1 h2 _ => absurd h2 (by omega)) rfl
