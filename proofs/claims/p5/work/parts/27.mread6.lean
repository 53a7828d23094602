def kU : ek := (146, [.inr 86], [], [(84, 19), (84, 21), (84, 22), (84, 23), (84, 24), (84, 25), (97, 999), (98, 999)], [(some (.inl (0, 0)), []), (some (.inl (1, 1)), [])], 4, 82)
theorem rS (l : Launch) {g : Nat → Int} {sg : Nat} {need how : Int} {B N : Prop} {tp : Nat → Int} {ln : Nat} {σ0 : Nat → Int} {cm0 : Nat} {wt0 : Nat → Int} {b pl0 : Nat} (hz : pZ g sg need how B N σ0 cm0 wt0 b pl0) (hn : 0 ≤ need) (hh : 0 ≤ how) : hk_ok l tQ (mV tp ln σ0 cm0 wt0 b pl0) (fun i _ ws => i = 0 ∨ ∃ v : (Nat → Int) × Nat × (Nat → Int) × Nat × Nat, (pZ g sg (need + 1) how B N v.1 v.2.1 v.2.2.1 v.2.2.2.1 v.2.2.2.2 ∧ pl0 + 1 ≤ v.2.2.2.2) ∧ mV tp ln v.1 v.2.1 v.2.2.1 v.2.2.2.1 v.2.2.2.2 ws) kU := by
  refine hk_ok_of (o := 9) (r := (yX9_readsSum, prog_11_method_24_code, 3, some .boolean)) rfl rfl (by decide +kernel) (by decide) rfl (fun p e s m args below meth c D tys aK aV b0 ad w0 C hret => ?_)
  refine ev_go_w (P := ln ≤ 240) (fun w hw h => ?_) (fun hln => ?_)
  · have h1 := (gI_rng (j := 84) (f := 20) hw rfl rfl).1.2
    rw [h.2.2.2.2.2.2] at h1
    dsimp only at h1
    omega
  refine ev_go_w (P := pl0 ≤ 240) (fun w hw h => mV_240 hw h) (fun hpl0 => ?_)
  have hbb : b ≤ pl0 := hz.2.2.1
  have last : ∀ (γ : Nat → Int), γ 0 = (b : Int) → ∀ (σ : Nat → Int) (cm : Nat) (wt : Nat → Int) (wn pl : Nat), pl ≤ 240 → pl0 + 1 ≤ pl → pZ g sg (need + 1) how B N σ cm wt wn pl → ev_go p l e (ek_rm kU) s m args below meth c (MQ below (hk_qc D tys tQ (fun i _ ws => i = 0 ∨ ∃ v : (Nat → Int) × Nat × (Nat → Int) × Nat × Nat, (pZ g sg (need + 1) how B N v.1 v.2.1 v.2.2.1 v.2.2.2.1 v.2.2.2.2 ∧ pl0 + 1 ≤ v.2.2.2.2) ∧ mV tp ln v.1 v.2.1 v.2.2.1 v.2.2.2.1 v.2.2.2.2 ws) b0 ad w0 kU true) args s 0 0 (fun q => b0 ≤ q)) D tys tQ (mV tp ln σ cm wt wn pl) b0 3 ad w0 [(84, 19), (84, 21), (84, 22), (84, 23), (84, 24), (84, 25), (97, 999), (98, 999)] γ (140, [some (.inr 86, none), some (.inl (0, 240), some (0, 0)), none], [(.inl (0, 240), (1, 1, 0, 0)), (.inr 86, ev_nt)], [], []) := by
    intro γ hγ σ cm wt wn pl hpl hp1 hz
    have hb1 : wn ≤ pl := hz.2.2.1
    refine ev_go_top (q' := ((b : Int), (b : Int))) (t' := ev_nt) (fun ls w y _ hl _ _ hy ty => ⟨?_, ev_tag0⟩) ?_
    · obtain ⟨u, g1, g2⟩ := tag_l ty
      have g3 := lo_mark (i := 1) (n := 0) (d := 0) hl rfl g1
      rw [hγ] at g3
      exact ⟨by show (b : Int) ≤ y.toInt; omega, by show y.toInt ≤ (b : Int); omega⟩
    · refine hs_callV C (κ := kH b) (A := [(.inl ((b : Int), (b : Int)), ev_nt)]) (S := []) (j := 84) (i := 284) (mi := 156) (n := 1) (ci := 9) (E := fun _ => True) (hO l b (by omega) (by omega) (fun j hj => ⟨(hz.2.2.2.2.2.2.1 j hj).1, by have := (hz.2.2.2.2.2.2.1 j hj).2; omega⟩)) (fun w h => ⟨h, trivial⟩) (fun _ _ _ h => h) (by decide +kernel) rfl rfl rfl (by simp [en_all2, en_le, kH]) rfl (fun q hq => absurd (show q ∈ ([] : List (Nat × Nat)) from hq) List.not_mem_nil) rfl rfl rfl (Nat.le_of_ble_eq_true rfl) (Nat.le_of_ble_eq_true rfl) (by decide) (by decide +kernel) (fun i u x hu hq => ?_)
      match i, hu with
      | 0, hu =>
        cases hu
        have hx0 : x = 0 := by have h1 := hq.1; have h2 := hq.2; dsimp only at h1 h2; omega
        subst hx0
        refine ev_go_mono (I' := mV tp ln σ cm wt wn pl) (fun w h => h.1.2) ?_
        refine hv_go C mV_hI [(84, 19), (84, 21), (84, 22), (84, 23), (84, 24), (84, 25), (97, 999), (98, 999)] [] (4, 82) [] [(158, [some (.inr 86, none), some (.inl (0, 240), some (0, 0)), none], [(.inl (1, 1), ev_nt), (.inr 86, ev_nt)], [], [])] 80 (st := (143, [some (.inr 86, none), some (.inl (0, 240), some (0, 0)), none], [(.inl (0, 0), ev_nt)], [], [])) ⟨rfl, rfl⟩ (by decide +kernel) trivial ⟨?_, trivial⟩
        refine hs_callV C (A := [(.inl (1, 1), ev_nt)]) (S := []) (j := 84) (i := 280) (mi := 154) (n := 1) (ci := 9) (E := fun _ => True) (cS_1 l hz (by omega) hh) (fun w h => ⟨h, trivial⟩) (fun _ _ _ h => h) (by decide +kernel) rfl rfl rfl (by decide) rfl (by decide) rfl rfl rfl (by decide) (by decide) (by decide) (by decide +kernel) (fun i u x hu hq => ?_)
        match i, hu with
        | 0, hu =>
          cases hu
          have hx0 : x = 0 := hq
          subst hx0
          refine ev_go_mono (fun w h => h.1) (ev_go_exP (fun v hv => ?_))
          refine hv_go C mV_hI [(84, 19), (84, 21), (84, 22), (84, 23), (84, 24), (84, 25), (97, 999), (98, 999)] [] (4, 82) [] [(162, [none, none, none], [(.inl (1, 1), ev_nt)], [], [])] 80 ⟨rfl, rfl⟩ (by decide +kernel) trivial ⟨?_, trivial⟩
          exact hs_iret C (i := 1) (fun ls w x _ _ _ hI hx _ => Or.inr ⟨(v.1, v.2.1, wt, v.2.2, pl), ⟨hv.1, hp1⟩, hI⟩) hret rfl rfl rfl (by decide) rfl rfl rfl (by decide +kernel)
      | 1, hu =>
        cases hu
        have hx0 : x = 1 := by have h1 := hq.1; have h2 := hq.2; dsimp only at h1 h2; omega
        subst hx0
        refine ev_go_mono (I' := mV tp ln σ cm wt wn pl) (fun w h => h.1.2) ?_
        refine hv_go C mV_hI [(84, 19), (84, 21), (84, 22), (84, 23), (84, 24), (84, 25), (97, 999), (98, 999)] [kq_185] (4, 82) [] [(155, [none, none, none], [(.inl (0, 0), ev_nt)], [], [])] 80 (st := (143, [some (.inr 86, none), some (.inl (0, 240), some (0, 0)), none], [(.inl (1, 1), ev_nt)], [], [])) ⟨rfl, rfl⟩ (by decide +kernel) ⟨ek_upS mV_hI (fun _ _ => trivial) rfl (qk_185 l), trivial⟩ ⟨?_, trivial⟩
        exact hs_iret C (i := 0) (fun ls w x _ _ _ hI hx _ => Or.inl rfl) hret rfl rfl rfl (by decide) rfl rfl rfl (by decide +kernel)
  have loop : ∀ (d : Nat) (γ : Nat → Int) (σ : Nat → Int) (cm : Nat) (wt : Nat → Int) (wn pl : Nat), γ 0 = (b : Int) → 240 - pl = d → pl0 + 1 ≤ pl → pZ g sg (need + 1) how B N σ cm wt wn pl → (∀ j, b ≤ j → j < wn → (2 ≤ wt j / 1048576 ∧ wt j / 1048576 ≤ 6) ∨ wt j / 1048576 = 14) → ev_go p l e (ek_rm kU) s m args below meth c (MQ below (hk_qc D tys tQ (fun i _ ws => i = 0 ∨ ∃ v : (Nat → Int) × Nat × (Nat → Int) × Nat × Nat, (pZ g sg (need + 1) how B N v.1 v.2.1 v.2.2.1 v.2.2.2.1 v.2.2.2.2 ∧ pl0 + 1 ≤ v.2.2.2.2) ∧ mV tp ln v.1 v.2.1 v.2.2.1 v.2.2.2.1 v.2.2.2.2 ws) b0 ad w0 kU true) args s 0 0 (fun q => b0 ≤ q)) D tys tQ (mV tp ln σ cm wt wn pl) b0 3 ad w0 [(84, 19), (84, 21), (84, 22), (84, 23), (84, 24), (84, 25), (97, 999), (98, 999)] γ (14, [some (.inr 86, none), some (.inl (0, 240), some (0, 0)), none], [], [], []) := by
    intro d
    induction d using Nat.strongRecOn with
    | _ d ih =>
      intro γ σ cm wt wn pl hγ hd hp1 hz hrg
      have hb1 : wn ≤ pl := hz.2.2.1
      refine ev_go_w (P := pl ≤ 240) (fun w hw h => mV_240 hw h) (fun hpl => ?_)
      rcases hr_rng tp ln pl with hx | hx
      · refine hv_go C mV_hI [(84, 19), (84, 21), (84, 22), (84, 23), (84, 24), (84, 25), (97, 999), (98, 999)] [kRn, kq_3003] (4, 82) [] [(140, [some (.inr 86, none), some (.inl (0, 240), some (0, 0)), none], [(.inl (0, 240), (1, 1, 0, 0)), (.inr 86, ev_nt)], [], [])] 80 ⟨rfl, rfl⟩ (by decide +kernel) ⟨heN l hx.1, ek_upS mV_hI (fun _ _ => trivial) rfl (qk_3003 l), trivial⟩ ⟨?_, trivial⟩
        exact last γ hγ σ cm wt wn pl hpl hp1 hz
      · refine hv_go C mV_hI [(84, 19), (84, 21), (84, 22), (84, 23), (84, 24), (84, 25), (97, 999), (98, 999)] [kR 0 255, kq_3004] (4, 82) [] [(38, [some (.inr 86, none), some (.inl (0, 240), some (0, 0)), some (.inl (2, 3), none)], [(.inl (1, 1), ev_nt), (.inr 86, ev_nt)], [((2, 84, 19), (0, 239), none)], []), (38, [some (.inr 86, none), some (.inl (0, 240), some (0, 0)), some (.inl (4, 6), none)], [(.inl (0, 0), ev_nt), (.inr 86, ev_nt)], [((2, 84, 19), (0, 239), none)], []), (94, [some (.inr 86, none), some (.inl (0, 240), some (0, 0)), none], [(.inl (0, 240), (1, 1, 0, 0)), (.inr 86, ev_nt)], [((2, 84, 19), (0, 239), none)], []), (140, [some (.inr 86, none), some (.inl (0, 240), some (0, 0)), none], [(.inl (0, 240), (1, 1, 0, 0)), (.inr 86, ev_nt)], [], [])] 80 ⟨rfl, rfl⟩ (by decide +kernel) ⟨heR l 0 255 (by decide) (by omega), ek_upS mV_hI (fun _ _ => trivial) rfl (qk_3004 l), trivial⟩ ⟨?_, ?_, ?_, ?_, trivial⟩
        · refine hs_callV C (A := [(.inl (1, 1), ev_nt)]) (S := []) (j := 84) (i := 280) (mi := 154) (n := 1) (ci := 9) (E := fun _ => True) (cS_1 l hz (by omega) hh) (fun w h => ⟨h, trivial⟩) (fun _ _ _ h => h) (by decide +kernel) rfl rfl rfl (by decide) rfl (by decide) rfl rfl rfl (by decide) (by decide) (by decide) (by decide +kernel) (fun i u x hu hq => ?_)
          match i, hu with
          | 0, hu =>
            cases hu
            have hx0 : x = 0 := hq
            subst hx0
            refine ev_go_mono (fun w h => h.1) (ev_go_exP (fun v hv => ?_))
            obtain ⟨σ1, cm1, wn1⟩ := v
            obtain ⟨hz1, hw1, hpop, htop⟩ := hv
            dsimp only at hz1 hw1 hpop
            refine ev_go_mono (I' := mV tp ln σ1 cm1 wt wn1 pl) (fun w h => h) ?_
            refine ev_go_fact 84 25 (0, 259) rfl rfl (fun w hw h => by rw [h.2.2.2.1]; exact ⟨by dsimp only; omega, by dsimp only; omega⟩) ?_
            refine hv_go C mV_hI [(84, 19), (84, 21), (84, 22), (84, 23), (84, 24), (84, 25), (97, 999), (98, 999)] [] (4, 82) [] [(53, [some (.inr 86, none), some (.inl (0, 240), some (0, 0)), some (.inl (2, 3), none)], [(.inl (2097152, 3145728), ev_nt), (.inl (0, 259), (2, 84, 25, 0)), (.inr 100, ev_nt)], [((2, 84, 25), (0, 259), none), ((2, 84, 19), (0, 239), none)], [])] 80 ⟨rfl, rfl⟩ (by decide +kernel) trivial ⟨?_, trivial⟩
            refine hs_ast C (I' := fun ws => ∃ y : Int, (2097152 ≤ y ∧ y ≤ 3145728) ∧ mV tp ln σ1 cm1 (uN wn1 y wt) wn1 pl ws) (t := (0, 260, -2147483648, 2147483647)) ?_ rfl rfl ?_ (by decide) (by decide) (by decide) (by decide +kernel) ?_
            · intro ls w w' i y hw hl hF hI hi ti hy ty i0 i1 hs hf
              have e : i.toInt = wn1 := by rw [tag_f ti, hI.2.2.2.1]; omega
              refine ⟨y.toInt, hy, ?_⟩
              have h := mV_s98 hI hs
              rw [e] at h
              exact h
            · intro ls w i hw hl hF hI hi ti
              obtain ⟨a1, a2⟩ := hi
              dsimp only at a1 a2
              exact ⟨by omega, by show i.toInt < 260; omega⟩
            · refine ev_go_exP (fun y hy => ?_)
              refine hv_go C mV_hI [(84, 19), (84, 21), (84, 22), (84, 23), (84, 24), (84, 25), (97, 999), (98, 999)] [] (4, 82) [] [(61, [some (.inr 86, none), some (.inl (0, 240), some (0, 0)), none], [(.inl (1, 260), (2, 84, 25, 1)), (.inr 86, ev_nt)], [((2, 84, 19), (0, 239), none)], [])] 80 ⟨rfl, rfl⟩ (by decide +kernel) trivial ⟨?_, trivial⟩
              refine hs_put C (I' := mV tp ln σ1 cm1 (uN wn1 y wt) (wn1 + 1) pl) (i := 253) (ci := 9) (f := 25) (j := 84) (b := (-2147483648, 2147483647)) ?_ (by decide +kernel) rfl (by decide) rfl rfl (by decide) (by decide) (by decide) (by decide) (by decide +kernel) ?_
              · intro ls w w' z hw hl hF hI hz tz hp hf
                exact mV_p25 hI hp (by rw [tag_f tz, hI.2.2.2.1]; omega)
              · refine hv_go C mV_hI [(84, 19), (84, 21), (84, 22), (84, 23), (84, 24), (84, 25), (97, 999), (98, 999)] [] (4, 82) [] [(71, [some (.inr 86, none), some (.inl (0, 240), some (0, 0)), none], [(.inl (1, 240), (2, 84, 19, 1)), (.inr 86, ev_nt)], [], [])] 80 ⟨rfl, rfl⟩ (by decide +kernel) trivial ⟨?_, trivial⟩
                refine hs_put C (I' := mV tp ln σ1 cm1 (uN wn1 y wt) (wn1 + 1) (pl + 1)) (i := 222) (ci := 9) (f := 19) (j := 84) (b := (0, 240)) ?_ (by decide +kernel) rfl (by decide) rfl rfl (by decide) (by decide) (by decide) (by decide) (by decide +kernel) ?_
                · intro ls w w' z hw hl hF hI hz tz hp hf
                  exact mV_p19 hI hp (by rw [tag_f tz, hI.2.2.2.2.1]; omega)
                · refine hv_go C mV_hI [(84, 19), (84, 21), (84, 22), (84, 23), (84, 24), (84, 25), (97, 999), (98, 999)] [] (4, 82) [] [(75, [some (.inr 86, none), some (.inl (0, 240), some (0, 0)), none], [(.inr 86, ev_nt)], [], [])] 80 ⟨rfl, rfl⟩ (by decide +kernel) trivial ⟨?_, trivial⟩
                  have hz2 : pZ g sg need how B N σ1 cm1 (uN wn1 y wt) (wn1 + 1) (pl + 1) := pZ_push hz1 ⟨by omega, Or.inl ⟨by omega, rfl⟩⟩ (fun hb => Or.inl hb)
                  refine hs_callV C (A := []) (S := []) (j := 84) (i := 274) (mi := 147) (n := 0) (ci := 9) (E := fun _ => True) (rF l hz2 hh) (fun w h => ⟨h, trivial⟩) (fun _ _ _ h => h) (by decide +kernel) rfl rfl rfl (by decide) rfl (by decide) rfl rfl rfl (by decide) (by decide) (by decide) (by decide +kernel) (fun i u x hu hq => ?_)
                  match i, hu with
                  | 0, hu =>
                    cases hu
                    have hx0 : x = 0 := by have h1 := hq.1; have h2 := hq.2; dsimp only at h1 h2; omega
                    subst hx0
                    refine ev_go_mono (I' := fun _ => True) (fun w h => trivial) ?_
                    refine hv_go C tr_hI [(84, 19), (84, 21), (84, 22), (84, 23), (84, 24), (84, 25), (97, 999), (98, 999)] [] (4, 82) [] [(82, [none, none, none], [(.inl (0, 0), ev_nt)], [], [])] 80 ⟨rfl, rfl⟩ (by decide +kernel) trivial ⟨?_, trivial⟩
                    exact hs_iret C (i := 0) (fun ls w x _ _ _ hI hx _ => Or.inl rfl) hret rfl rfl rfl (by decide) rfl rfl rfl (by decide +kernel)
                  | 1, hu =>
                    cases hu
                    have hx0 : x = 1 := by have h1 := hq.1; have h2 := hq.2; dsimp only at h1 h2; omega
                    subst hx0
                    refine ev_go_mono (fun w h => h.1.resolve_left (by decide)) (ev_go_exP (fun v hv => ?_))
                    obtain ⟨σ3, cm3, wt3, wn3, pl3⟩ := v
                    obtain ⟨hz3, k1, k2, k3, k4⟩ := hv
                    dsimp only at hz3 k1 k2 k3 k4
                    refine ev_go_mono (I' := mV tp ln σ3 cm3 wt3 wn3 pl3) (fun w h => h) ?_
                    refine hv_go C mV_hI [(84, 19), (84, 21), (84, 22), (84, 23), (84, 24), (84, 25), (97, 999), (98, 999)] [] (4, 82) [] [(14, [some (.inr 86, none), some (.inl (0, 240), some (0, 0)), none], [], [], [])] 80 ⟨rfl, rfl⟩ (by decide +kernel) trivial ⟨?_, trivial⟩
                    refine ih (240 - pl3) (by omega) γ σ3 cm3 wt3 wn3 pl3 hγ rfl (by omega) hz3 (fun j hj1 hj2 => ?_)
                    rcases Nat.lt_or_ge j (wn1 + 1) with h9 | h9
                    · rw [k2 j h9]
                      rcases Nat.lt_or_ge j wn1 with h8 | h8
                      · rw [uN_n _ _ (by omega)]
                        exact hrg j hj1 (by omega)
                      · have e : j = wn1 := by omega
                        subst e
                        rw [uN_s]
                        exact Or.inl (by omega)
                    · exact Or.inr (k3 j h9 hj2)
        · refine hs_callV C (A := [(.inl (0, 0), ev_nt)]) (S := []) (j := 84) (i := 280) (mi := 154) (n := 1) (ci := 9) (E := fun _ => True) (cS_0 l hz (by omega) hh) (fun w h => ⟨h, trivial⟩) (fun _ _ _ h => h) (by decide +kernel) rfl rfl rfl (by decide) rfl (by decide) rfl rfl rfl (by decide) (by decide) (by decide) (by decide +kernel) (fun i u x hu hq => ?_)
          match i, hu with
          | 0, hu =>
            cases hu
            have hx0 : x = 0 := hq
            subst hx0
            refine ev_go_mono (fun w h => h.1) (ev_go_exP (fun v hv => ?_))
            obtain ⟨σ1, cm1, wn1⟩ := v
            obtain ⟨hz1, hw1, hpop⟩ := hv
            dsimp only at hz1 hw1 hpop
            refine ev_go_mono (I' := mV tp ln σ1 cm1 wt wn1 pl) (fun w h => h) ?_
            refine ev_go_fact 84 25 (0, 259) rfl rfl (fun w hw h => by rw [h.2.2.2.1]; exact ⟨by dsimp only; omega, by dsimp only; omega⟩) ?_
            refine hv_go C mV_hI [(84, 19), (84, 21), (84, 22), (84, 23), (84, 24), (84, 25), (97, 999), (98, 999)] [] (4, 82) [] [(53, [some (.inr 86, none), some (.inl (0, 240), some (0, 0)), some (.inl (4, 6), none)], [(.inl (4194304, 6291456), ev_nt), (.inl (0, 259), (2, 84, 25, 0)), (.inr 100, ev_nt)], [((2, 84, 25), (0, 259), none), ((2, 84, 19), (0, 239), none)], [])] 80 ⟨rfl, rfl⟩ (by decide +kernel) trivial ⟨?_, trivial⟩
            refine hs_ast C (I' := fun ws => ∃ y : Int, (4194304 ≤ y ∧ y ≤ 6291456) ∧ mV tp ln σ1 cm1 (uN wn1 y wt) wn1 pl ws) (t := (0, 260, -2147483648, 2147483647)) ?_ rfl rfl ?_ (by decide) (by decide) (by decide) (by decide +kernel) ?_
            · intro ls w w' i y hw hl hF hI hi ti hy ty i0 i1 hs hf
              have e : i.toInt = wn1 := by rw [tag_f ti, hI.2.2.2.1]; omega
              refine ⟨y.toInt, hy, ?_⟩
              have h := mV_s98 hI hs
              rw [e] at h
              exact h
            · intro ls w i hw hl hF hI hi ti
              obtain ⟨a1, a2⟩ := hi
              dsimp only at a1 a2
              exact ⟨by omega, by show i.toInt < 260; omega⟩
            · refine ev_go_exP (fun y hy => ?_)
              refine hv_go C mV_hI [(84, 19), (84, 21), (84, 22), (84, 23), (84, 24), (84, 25), (97, 999), (98, 999)] [] (4, 82) [] [(61, [some (.inr 86, none), some (.inl (0, 240), some (0, 0)), none], [(.inl (1, 260), (2, 84, 25, 1)), (.inr 86, ev_nt)], [((2, 84, 19), (0, 239), none)], [])] 80 ⟨rfl, rfl⟩ (by decide +kernel) trivial ⟨?_, trivial⟩
              refine hs_put C (I' := mV tp ln σ1 cm1 (uN wn1 y wt) (wn1 + 1) pl) (i := 253) (ci := 9) (f := 25) (j := 84) (b := (-2147483648, 2147483647)) ?_ (by decide +kernel) rfl (by decide) rfl rfl (by decide) (by decide) (by decide) (by decide) (by decide +kernel) ?_
              · intro ls w w' z hw hl hF hI hz tz hp hf
                exact mV_p25 hI hp (by rw [tag_f tz, hI.2.2.2.1]; omega)
              · refine hv_go C mV_hI [(84, 19), (84, 21), (84, 22), (84, 23), (84, 24), (84, 25), (97, 999), (98, 999)] [] (4, 82) [] [(71, [some (.inr 86, none), some (.inl (0, 240), some (0, 0)), none], [(.inl (1, 240), (2, 84, 19, 1)), (.inr 86, ev_nt)], [], [])] 80 ⟨rfl, rfl⟩ (by decide +kernel) trivial ⟨?_, trivial⟩
                refine hs_put C (I' := mV tp ln σ1 cm1 (uN wn1 y wt) (wn1 + 1) (pl + 1)) (i := 222) (ci := 9) (f := 19) (j := 84) (b := (0, 240)) ?_ (by decide +kernel) rfl (by decide) rfl rfl (by decide) (by decide) (by decide) (by decide) (by decide +kernel) ?_
                · intro ls w w' z hw hl hF hI hz tz hp hf
                  exact mV_p19 hI hp (by rw [tag_f tz, hI.2.2.2.2.1]; omega)
                · refine hv_go C mV_hI [(84, 19), (84, 21), (84, 22), (84, 23), (84, 24), (84, 25), (97, 999), (98, 999)] [] (4, 82) [] [(75, [some (.inr 86, none), some (.inl (0, 240), some (0, 0)), none], [(.inr 86, ev_nt)], [], [])] 80 ⟨rfl, rfl⟩ (by decide +kernel) trivial ⟨?_, trivial⟩
                  have hz2 : pZ g sg need how B N σ1 cm1 (uN wn1 y wt) (wn1 + 1) (pl + 1) := pZ_push hz1 ⟨by omega, Or.inl ⟨by omega, rfl⟩⟩ (fun hb => Or.inl hb)
                  refine hs_callV C (A := []) (S := []) (j := 84) (i := 274) (mi := 147) (n := 0) (ci := 9) (E := fun _ => True) (rF l hz2 hh) (fun w h => ⟨h, trivial⟩) (fun _ _ _ h => h) (by decide +kernel) rfl rfl rfl (by decide) rfl (by decide) rfl rfl rfl (by decide) (by decide) (by decide) (by decide +kernel) (fun i u x hu hq => ?_)
                  match i, hu with
                  | 0, hu =>
                    cases hu
                    have hx0 : x = 0 := by have h1 := hq.1; have h2 := hq.2; dsimp only at h1 h2; omega
                    subst hx0
                    refine ev_go_mono (I' := fun _ => True) (fun w h => trivial) ?_
                    refine hv_go C tr_hI [(84, 19), (84, 21), (84, 22), (84, 23), (84, 24), (84, 25), (97, 999), (98, 999)] [] (4, 82) [] [(82, [none, none, none], [(.inl (0, 0), ev_nt)], [], [])] 80 ⟨rfl, rfl⟩ (by decide +kernel) trivial ⟨?_, trivial⟩
                    exact hs_iret C (i := 0) (fun ls w x _ _ _ hI hx _ => Or.inl rfl) hret rfl rfl rfl (by decide) rfl rfl rfl (by decide +kernel)
                  | 1, hu =>
                    cases hu
                    have hx0 : x = 1 := by have h1 := hq.1; have h2 := hq.2; dsimp only at h1 h2; omega
                    subst hx0
                    refine ev_go_mono (fun w h => h.1.resolve_left (by decide)) (ev_go_exP (fun v hv => ?_))
                    obtain ⟨σ3, cm3, wt3, wn3, pl3⟩ := v
                    obtain ⟨hz3, k1, k2, k3, k4⟩ := hv
                    dsimp only at hz3 k1 k2 k3 k4
                    refine ev_go_mono (I' := mV tp ln σ3 cm3 wt3 wn3 pl3) (fun w h => h) ?_
                    refine hv_go C mV_hI [(84, 19), (84, 21), (84, 22), (84, 23), (84, 24), (84, 25), (97, 999), (98, 999)] [] (4, 82) [] [(14, [some (.inr 86, none), some (.inl (0, 240), some (0, 0)), none], [], [], [])] 80 ⟨rfl, rfl⟩ (by decide +kernel) trivial ⟨?_, trivial⟩
                    refine ih (240 - pl3) (by omega) γ σ3 cm3 wt3 wn3 pl3 hγ rfl (by omega) hz3 (fun j hj1 hj2 => ?_)
                    rcases Nat.lt_or_ge j (wn1 + 1) with h9 | h9
                    · rw [k2 j h9]
                      rcases Nat.lt_or_ge j wn1 with h8 | h8
                      · rw [uN_n _ _ (by omega)]
                        exact hrg j hj1 (by omega)
                      · have e : j = wn1 := by omega
                        subst e
                        rw [uN_s]
                        exact Or.inl (by omega)
                    · exact Or.inr (k3 j h9 hj2)
        · refine ev_go_top (q' := ((b : Int), (b : Int))) (t' := ev_nt) (fun ls w y _ hl _ _ hy ty => ⟨?_, ev_tag0⟩) ?_
          · obtain ⟨u, g1, g2⟩ := tag_l ty
            have g3 := lo_mark (i := 1) (n := 0) (d := 0) hl rfl g1
            rw [hγ] at g3
            exact ⟨by show (b : Int) ≤ y.toInt; omega, by show y.toInt ≤ (b : Int); omega⟩
          · refine hs_callV C (κ := kH b) (A := [(.inl ((b : Int), (b : Int)), ev_nt)]) (S := []) (j := 84) (i := 284) (mi := 156) (n := 1) (ci := 9) (E := fun _ => True) (hO l b (by omega) (by omega) (fun j hj => ⟨(hz.2.2.2.2.2.2.1 j hj).1, by have := (hz.2.2.2.2.2.2.1 j hj).2; omega⟩)) (fun w h => ⟨h, trivial⟩) (fun _ _ _ h => h) (by decide +kernel) rfl rfl rfl (by simp [en_all2, en_le, kH]) rfl (fun q hq => absurd (show q ∈ ([] : List (Nat × Nat)) from hq) List.not_mem_nil) rfl rfl rfl (Nat.le_of_ble_eq_true rfl) (Nat.le_of_ble_eq_true rfl) (by decide) (by decide +kernel) (fun i u x hu hq => ?_)
            match i, hu with
            | 0, hu =>
              cases hu
              have hx0 : x = 0 := by have h1 := hq.1; have h2 := hq.2; dsimp only at h1 h2; omega
              subst hx0
              refine ev_go_mono (I' := mV tp ln σ cm wt wn pl) (fun w h => h.1.2) ?_
              refine hv_go C mV_hI [(84, 19), (84, 21), (84, 22), (84, 23), (84, 24), (84, 25), (97, 999), (98, 999)] [] (4, 82) [] [(140, [some (.inr 86, none), some (.inl (0, 240), some (0, 0)), none], [(.inl (0, 240), (1, 1, 0, 0)), (.inr 86, ev_nt)], [], [])] 80 (st := (97, [some (.inr 86, none), some (.inl (0, 240), some (0, 0)), none], [(.inl (0, 0), ev_nt)], [((2, 84, 19), (0, 239), none)], [])) ⟨rfl, rfl⟩ (by decide +kernel) trivial ⟨?_, trivial⟩
              exact last γ hγ σ cm wt wn pl hpl hp1 hz
            | 1, hu =>
              cases hu
              have hx0 : x = 1 := by have h1 := hq.1; have h2 := hq.2; dsimp only at h1 h2; omega
              subst hx0
              refine ev_go_mono (I' := fun ws => ∃ j : Nat, (b ≤ j ∧ j < wn ∧ wt j / 1048576 = 14) ∧ mV tp ln σ cm wt wn pl ws) (fun w h => ?_) (ev_go_exP (fun j0 hj0 => ?_))
              · rcases h.1.1 with h9 | ⟨-, j, h9⟩
                · exact absurd h9.1 (by decide)
                · exact ⟨j, h9, h.1.2⟩
              refine hv_go C mV_hI [(84, 19), (84, 21), (84, 22), (84, 23), (84, 24), (84, 25), (97, 999), (98, 999)] [] (4, 82) [] [(102, [some (.inr 86, none), some (.inl (0, 240), some (0, 0)), none], [(.inl (1, 1), ev_nt), (.inr 86, ev_nt)], [((2, 84, 19), (0, 239), none)], [])] 80 (st := (97, [some (.inr 86, none), some (.inl (0, 240), some (0, 0)), none], [(.inl (1, 1), ev_nt)], [((2, 84, 19), (0, 239), none)], [])) ⟨rfl, rfl⟩ (by decide +kernel) trivial ⟨?_, trivial⟩
              refine hs_callV C (A := [(.inl (1, 1), ev_nt)]) (S := []) (j := 84) (i := 280) (mi := 154) (n := 1) (ci := 9) (E := fun _ => True) (cS_1 l hz (by omega) hh) (fun w h => ⟨h, trivial⟩) (fun _ _ _ h => h) (by decide +kernel) rfl rfl rfl (by decide) rfl (by decide) rfl rfl rfl (by decide) (by decide) (by decide) (by decide +kernel) (fun i u x hu hq => ?_)
              match i, hu with
              | 0, hu =>
                cases hu
                have hx0 : x = 0 := hq
                subst hx0
                refine ev_go_mono (fun w h => h.1) (ev_go_exP (fun v hv => ?_))
                obtain ⟨σ1, cm1, wn1⟩ := v
                obtain ⟨hz1, hw1, hpop, htop⟩ := hv
                dsimp only at hz1 hw1 hpop htop
                have hj1 : j0 < wn1 := by
                  rcases Nat.lt_or_ge j0 wn1 with h9 | h9
                  · exact h9
                  · have := hpop j0 h9 hj0.2.1
                    omega
                obtain ⟨n1, rfl⟩ : ∃ n1, wn1 = n1 + 1 := ⟨wn1 - 1, by omega⟩
                have htp : wt n1 / 1048576 = 14 := by
                  rcases hrg n1 (by omega) (by omega) with h9 | h9
                  · rcases htop with h8 | h8
                    · omega
                    · exact absurd h9 h8
                  · exact h9
                refine ev_go_mono (I' := mV tp ln σ1 cm1 wt (n1 + 1) pl) (fun w h => h) ?_
                refine ev_go_fact 84 25 (1, 260) rfl rfl (fun w hw h => by rw [h.2.2.2.1]; exact ⟨by dsimp only; omega, by dsimp only; omega⟩) ?_
                refine hv_go C mV_hI [(84, 19), (84, 21), (84, 22), (84, 23), (84, 24), (84, 25), (97, 999), (98, 999)] [] (4, 82) [] [(112, [some (.inr 86, none), some (.inl (0, 240), some (0, 0)), none], [(.inl (0, 259), (2, 84, 25, -1)), (.inr 86, ev_nt)], [((2, 84, 19), (0, 239), none)], [])] 80 ⟨rfl, rfl⟩ (by decide +kernel) trivial ⟨?_, trivial⟩
                refine hs_put C (I' := mV tp ln σ1 cm1 wt n1 pl) (i := 253) (ci := 9) (f := 25) (j := 84) (b := (-2147483648, 2147483647)) ?_ (by decide +kernel) rfl (by decide) rfl rfl (by decide) (by decide) (by decide) (by decide) (by decide +kernel) ?_
                · intro ls w w' z hw hl hF hI hz tz hp hf
                  exact mV_p25 hI hp (by rw [tag_f tz, hI.2.2.2.1]; omega)
                · refine hv_go C mV_hI [(84, 19), (84, 21), (84, 22), (84, 23), (84, 24), (84, 25), (97, 999), (98, 999)] [] (4, 82) [] [(132, [some (.inr 86, none), some (.inl (0, 240), some (0, 0)), none], [(.inl (1, 240), (2, 84, 19, 1)), (.inr 86, ev_nt)], [], [])] 80 ⟨rfl, rfl⟩ (by decide +kernel) trivial ⟨?_, trivial⟩
                  refine hs_put C (I' := mV tp ln σ1 cm1 wt n1 (pl + 1)) (i := 222) (ci := 9) (f := 19) (j := 84) (b := (0, 240)) ?_ (by decide +kernel) rfl (by decide) rfl rfl (by decide) (by decide) (by decide) (by decide) (by decide +kernel) ?_
                  · intro ls w w' z hw hl hF hI hz tz hp hf
                    exact mV_p19 hI hp (by rw [tag_f tz, hI.2.2.2.2.1]; omega)
                  · refine hv_go C mV_hI [(84, 19), (84, 21), (84, 22), (84, 23), (84, 24), (84, 25), (97, 999), (98, 999)] [] (4, 82) [] [(14, [some (.inr 86, none), some (.inl (0, 240), some (0, 0)), none], [], [], [])] 80 ⟨rfl, rfl⟩ (by decide +kernel) trivial ⟨?_, trivial⟩
                    refine ih (240 - (pl + 1)) (by omega) γ σ1 cm1 wt n1 (pl + 1) hγ rfl (by omega) (pZ_on (pZ_pop hz1 (by unfold jmp; omega) (fun hb => ⟨hb, ?_⟩)) (by omega) (by omega)) (fun j h1 h2 => hrg j h1 (by omega))
                    have h9 := (hz1.2.2.2.2.1 hb).2
                    rcases Nat.eq_zero_or_pos n1 with e | e
                    · subst e
                      omega
                    · exact e
        · exact last γ hγ σ cm wt wn pl hpl hp1 hz
  refine hv_go C mV_hI [(84, 19), (84, 21), (84, 22), (84, 23), (84, 24), (84, 25), (97, 999), (98, 999)] [] (4, 82) [] [(4, [some (.inr 86, none), none, none], [(.inl (-2147483648, 2147483647), (2, 84, 25, 0))], [], [])] 80 ⟨rfl, rfl⟩ (by decide +kernel) trivial ⟨?_, trivial⟩
  refine ev_go_top (q' := ((b : Int), (b : Int))) (t' := ev_nt) (fun ls w y _ hl _ hI hy ty => ⟨?_, ev_tag0⟩) ?_
  · have e : y.toInt = (b : Int) := by rw [tag_f ty, hI.2.2.2.1]; omega
    exact ⟨by show (b : Int) ≤ y.toInt; omega, by show y.toInt ≤ (b : Int); omega⟩
  · refine ev_op_ok C mV_hI (K := []) (rm := (4, 82)) (fun _ h => absurd h List.not_mem_nil) ⟨rfl, rfl⟩ (op := .istore_n 1) (len := 1) (by decide +kernel) rfl (fun st hst => ?_)
    rw [List.mem_singleton.mp hst]
    refine ev_go_gam (γ' := fun _ => (b : Int)) rfl ?_
    refine ev_go_mark (i := 1) (n := 0) (q' := (0, 240)) (v := (b : Int)) rfl ⟨by dsimp only; omega, by dsimp only; omega⟩ rfl ?_
    refine hv_go C mV_hI [(84, 19), (84, 21), (84, 22), (84, 23), (84, 24), (84, 25), (97, 999), (98, 999)] [] (4, 82) [] [(6, [some (.inr 86, none), some (.inl (0, 240), some (0, 0)), none], [(.inr 86, ev_nt)], [], [])] 80 (st := (5, [some (.inr 86, none), some (.inl (0, 240), some (0, 0)), none], [], [], [])) ⟨rfl, rfl⟩ (by decide +kernel) trivial ⟨?_, trivial⟩
    refine hs_callV C (A := []) (S := []) (j := 84) (i := 274) (mi := 147) (n := 0) (ci := 9) (E := fun _ => True) (rF l hz hh) (fun w h => ⟨h, trivial⟩) (fun _ _ _ h => h) (by decide +kernel) rfl rfl rfl (by decide) rfl (by decide) rfl rfl rfl (by decide) (by decide) (by decide) (by decide +kernel) (fun i u x hu hq => ?_)
    match i, hu with
    | 0, hu =>
      cases hu
      have hx0 : x = 0 := by have h1 := hq.1; have h2 := hq.2; dsimp only at h1 h2; omega
      subst hx0
      refine ev_go_mono (I' := fun _ => True) (fun w h => trivial) ?_
      refine hv_go C tr_hI [(84, 19), (84, 21), (84, 22), (84, 23), (84, 24), (84, 25), (97, 999), (98, 999)] [] (4, 82) [] [(13, [none, none, none], [(.inl (0, 0), ev_nt)], [], [])] 80 ⟨rfl, rfl⟩ (by decide +kernel) trivial ⟨?_, trivial⟩
      exact hs_iret C (i := 0) (fun ls w x _ _ _ hI hx _ => Or.inl rfl) hret rfl rfl rfl (by decide) rfl rfl rfl (by decide +kernel)
    | 1, hu =>
      cases hu
      have hx0 : x = 1 := by have h1 := hq.1; have h2 := hq.2; dsimp only at h1 h2; omega
      subst hx0
      refine ev_go_mono (fun w h => h.1.resolve_left (by decide)) (ev_go_exP (fun v hv => ?_))
      obtain ⟨σ3, cm3, wt3, wn3, pl3⟩ := v
      obtain ⟨hz3, k1, k2, k3, k4⟩ := hv
      dsimp only at hz3 k1 k2 k3 k4
      refine ev_go_mono (I' := mV tp ln σ3 cm3 wt3 wn3 pl3) (fun w h => h) ?_
      refine hv_go C mV_hI [(84, 19), (84, 21), (84, 22), (84, 23), (84, 24), (84, 25), (97, 999), (98, 999)] [] (4, 82) [] [(14, [some (.inr 86, none), some (.inl (0, 240), some (0, 0)), none], [], [], [])] 80 ⟨rfl, rfl⟩ (by decide +kernel) trivial ⟨?_, trivial⟩
      exact loop (240 - pl3) (fun _ => (b : Int)) σ3 cm3 wt3 wn3 pl3 rfl rfl k4 hz3 (fun j h1 h2 => Or.inr (k3 j h1 h2))
