def kF : ek := (147, [.inr 86], [], [(84, 19), (84, 21), (84, 22), (84, 23), (84, 24), (84, 25), (97, 999), (98, 999)], [(some (.inl (0, 0)), []), (some (.inl (1, 1)), [])], 3, 61)
theorem rF (l : Launch) {g : Nat → Int} {sg : Nat} {need how : Int} {B N : Prop} {tp : Nat → Int} {ln : Nat} {σ : Nat → Int} {cm : Nat} {wt0 : Nat → Int} {wn0 pl0 : Nat} (hz : pZ g sg need how B N σ cm wt0 wn0 pl0) (hh : 0 ≤ how) : hk_ok l tQ (mV tp ln σ cm wt0 wn0 pl0) (fun i _ ws => i = 0 ∨ ∃ v : (Nat → Int) × Nat × (Nat → Int) × Nat × Nat, (pZ g sg (need + 1) how B N v.1 v.2.1 v.2.2.1 v.2.2.2.1 v.2.2.2.2 ∧ wn0 ≤ v.2.2.2.1 ∧ (∀ j, j < wn0 → v.2.2.1 j = wt0 j) ∧ (∀ j, wn0 ≤ j → j < v.2.2.2.1 → v.2.2.1 j / 1048576 = 14) ∧ pl0 + 1 ≤ v.2.2.2.2) ∧ mV tp ln v.1 v.2.1 v.2.2.1 v.2.2.2.1 v.2.2.2.2 ws) kF := by
  refine hk_ok_of (o := 9) (r := (yX9_readsFactor, prog_11_method_22_code, 2, some .boolean)) rfl rfl (by decide +kernel) (by decide) rfl (fun p e s m args below meth c D tys aK aV b0 ad w0 C hret => ?_)
  refine ev_go_w (P := ln ≤ 240) (fun w hw h => ?_) (fun hln => ?_)
  · have h1 := (gI_rng (j := 84) (f := 20) hw rfl rfl).1.2
    rw [h.2.2.2.2.2.2] at h1
    dsimp only at h1
    omega
  have loop : ∀ (d : Nat) (wt : Nat → Int) (wn pl : Nat), 240 - pl = d → wn0 ≤ wn → (∀ j, j < wn0 → wt j = wt0 j) → (∀ j, wn0 ≤ j → j < wn → wt j / 1048576 = 14) → pl0 ≤ pl → pZ g sg need how B N σ cm wt wn pl → ev_go p l e (ek_rm kF) s m args below meth c (MQ below (hk_qc D tys tQ (fun i _ ws => i = 0 ∨ ∃ v : (Nat → Int) × Nat × (Nat → Int) × Nat × Nat, (pZ g sg (need + 1) how B N v.1 v.2.1 v.2.2.1 v.2.2.2.1 v.2.2.2.2 ∧ wn0 ≤ v.2.2.2.1 ∧ (∀ j, j < wn0 → v.2.2.1 j = wt0 j) ∧ (∀ j, wn0 ≤ j → j < v.2.2.2.1 → v.2.2.1 j / 1048576 = 14) ∧ pl0 + 1 ≤ v.2.2.2.2) ∧ mV tp ln v.1 v.2.1 v.2.2.1 v.2.2.2.1 v.2.2.2.2 ws) b0 ad w0 kF true) args s 0 0 (fun q => b0 ≤ q)) D tys tQ (mV tp ln σ cm wt wn pl) b0 2 ad w0 [(84, 19), (84, 21), (84, 22), (84, 23), (84, 24), (84, 25), (97, 999), (98, 999)] (fun _ => 0) (0, [some (.inr 86, none), none], [], [], []) := by
    intro d
    induction d using Nat.strongRecOn with
    | _ d ih =>
      intro wt wn pl hd hw1 hw2 hw3 hp1 hz
      have hb1 : wn ≤ pl := hz.2.2.1
      have hb2 : (cm : Int) ≤ pl := by
        have := hz.2.2.2.1
        have := cnt_nn (q := qN) (wt := wt) wn
        omega
      refine ev_go_w (P := pl ≤ 240) (fun w hw h => mV_240 hw h) (fun hpl => ?_)
      have hrr := hr_rng tp ln pl
      have hx : hr tp ln pl = -1 ∨ (0 ≤ hr tp ln pl ∧ hr tp ln pl ≤ 47) ∨ (48 ≤ hr tp ln pl ∧ hr tp ln pl ≤ 57) ∨ (58 ≤ hr tp ln pl ∧ hr tp ln pl ≤ 90) ∨ (91 ≤ hr tp ln pl ∧ hr tp ln pl ≤ 91) ∨ (92 ≤ hr tp ln pl ∧ hr tp ln pl ≤ 255) := by omega
      rcases hx with hx | hx | hx | hx | hx | hx
      · refine hv_go C mV_hI [(84, 19), (84, 21), (84, 22), (84, 23), (84, 24), (84, 25), (97, 999), (98, 999)] [kRn, kD0, kq_3001, kq_185] (3, 61) [] [(69, [none, none], [(.inl (0, 0), ev_nt)], [], [])] 80 ⟨rfl, rfl⟩ (by decide +kernel) ⟨heN l hx, iD0 l (by omega), ek_upS mV_hI (fun _ _ => trivial) rfl (qk_3001 l), ek_upS mV_hI (fun _ _ => trivial) rfl (qk_185 l), trivial⟩ ⟨?_, trivial⟩
        exact hs_iret C (i := 0) (fun ls w x _ _ _ hI hx _ => Or.inl rfl) hret rfl rfl rfl (by decide) rfl rfl rfl (by decide +kernel)
      · refine hv_go C mV_hI [(84, 19), (84, 21), (84, 22), (84, 23), (84, 24), (84, 25), (97, 999), (98, 999)] [kR 0 47, kD0, kq_3002, kq_185] (3, 61) [] [(69, [none, none], [(.inl (0, 0), ev_nt)], [], []), (73, [some (.inr 86, none), none], [(.inl (0, 6), ev_nt), (.inl (1, 1), ev_nt), (.inr 86, ev_nt)], [((2, 84, 19), (0, 239), none)], [])] 80 ⟨rfl, rfl⟩ (by decide +kernel) ⟨heR l 0 47 (by decide) hx, iD0 l (by omega), ek_upS mV_hI (fun _ _ => trivial) rfl (qk_3002 l), ek_upS mV_hI (fun _ _ => trivial) rfl (qk_185 l), trivial⟩ ⟨?_, ?_, trivial⟩
        · exact hs_iret C (i := 0) (fun ls w x _ _ _ hI hx _ => Or.inl rfl) hret rfl rfl rfl (by decide) rfl rfl rfl (by decide +kernel)
        · refine hs_callV C (A := [(.inl (0, 6), ev_nt), (.inl (1, 1), ev_nt)]) (S := []) (j := 84) (i := 259) (mi := 151) (n := 2) (ci := 9) (E := fun _ => True) (nt_1 l (by omega)) (fun w h => ⟨h, trivial⟩) (fun _ _ _ h => h) (by decide +kernel) rfl rfl rfl (by decide) rfl (by decide) rfl rfl rfl (by decide) (by decide) (by decide) (by decide +kernel) (fun i u x hu hq => ?_)
          match i, hu with
          | 0, hu =>
            cases hu
            have hx0 : x = 0 := hq
            subst hx0
            refine ev_go_mono (I' := fun ws => ∃ y : Int, (1048576 ≤ y ∧ y ≤ 1048582) ∧ mV tp ln (uN cm y σ) (cm + 1) wt wn pl ws) (fun w h => h.1) (ev_go_exP (fun y hy => ?_))
            refine hv_go C mV_hI [(84, 19), (84, 21), (84, 22), (84, 23), (84, 24), (84, 25), (97, 999), (98, 999)] [] (3, 61) [] [(83, [none, none], [(.inl (1, 240), (2, 84, 19, 1)), (.inr 86, ev_nt)], [], [])] 80 ⟨rfl, rfl⟩ (by decide +kernel) trivial ⟨?_, trivial⟩
            refine hs_put C (I' := mV tp ln (uN cm y σ) (cm + 1) wt wn (pl + 1)) (i := 222) (ci := 9) (f := 19) (j := 84) (b := (0, 240)) ?_ (by decide +kernel) rfl (by decide) rfl rfl (by decide) (by decide) (by decide) (by decide) (by decide +kernel) ?_
            · intro ls w w' z hw hl hF hI hz tz hp hf
              exact mV_p19 hI hp (by rw [tag_f tz, hI.2.2.2.2.1]; omega)
            · refine hv_go C mV_hI [(84, 19), (84, 21), (84, 22), (84, 23), (84, 24), (84, 25), (97, 999), (98, 999)] [] (3, 61) [] [(87, [none, none], [(.inl (1, 1), ev_nt)], [], [])] 80 ⟨rfl, rfl⟩ (by decide +kernel) trivial ⟨?_, trivial⟩
              exact hs_iret C (i := 1) (fun ls w x _ _ _ hI hx _ => Or.inr ⟨(uN cm y σ, cm + 1, wt, wn, pl + 1), ⟨pZ_val hz (Or.inr hy) (Nat.le_refl _), hw1, hw2, hw3, by show pl0 + 1 ≤ pl + 1; omega⟩, hI⟩) hret rfl rfl rfl (by decide) rfl rfl rfl (by decide +kernel)
      · refine hv_go C mV_hI [(84, 19), (84, 21), (84, 22), (84, 23), (84, 24), (84, 25), (97, 999), (98, 999)] [kR 48 57, kD1] (3, 61) [] [(28, [some (.inr 86, none), none], [(.inr 86, ev_nt)], [], [])] 80 ⟨rfl, rfl⟩ (by decide +kernel) ⟨heR l 48 57 (by decide) hx, iD1 l hx, trivial⟩ ⟨?_, trivial⟩
        refine hs_callV C (A := []) (S := []) (j := 84) (i := 267) (mi := 150) (n := 0) (ci := 9) (E := fun _ => True) (rN l hx) (fun w h => ⟨h, trivial⟩) (fun _ _ _ h => h) (by decide +kernel) rfl rfl rfl (by decide) rfl (by decide) rfl rfl rfl (by decide) (by decide) (by decide) (by decide +kernel) (fun i u x hu hq => ?_)
        match i, hu with
        | 0, hu =>
          cases hu
          have hx0 : x = 0 := by have h1 := hq.1; have h2 := hq.2; dsimp only at h1 h2; omega
          subst hx0
          refine ev_go_mono (I' := fun _ => True) (fun w h => trivial) ?_
          refine hv_go C tr_hI [(84, 19), (84, 21), (84, 22), (84, 23), (84, 24), (84, 25), (97, 999), (98, 999)] [] (3, 61) [] [(35, [none, none], [(.inl (0, 0), ev_nt)], [], [])] 80 ⟨rfl, rfl⟩ (by decide +kernel) trivial ⟨?_, trivial⟩
          exact hs_iret C (i := 0) (fun ls w x _ _ _ hI hx _ => Or.inl rfl) hret rfl rfl rfl (by decide) rfl rfl rfl (by decide +kernel)
        | 1, hu =>
          cases hu
          have hx0 : x = 1 := by have h1 := hq.1; have h2 := hq.2; dsimp only at h1 h2; omega
          subst hx0
          refine ev_go_mono (I' := fun ws => ∃ q : Nat, pl + 1 ≤ q ∧ mV tp ln σ cm wt wn q ws) (fun w h => h.1.resolve_left (by decide)) (ev_go_exP (fun q hpq => ?_))
          refine hv_go C mV_hI [(84, 19), (84, 21), (84, 22), (84, 23), (84, 24), (84, 25), (97, 999), (98, 999)] [] (3, 61) [] [(42, [some (.inr 86, none), none], [(.inl (0, 99999), ev_nt), (.inl (0, 0), ev_nt), (.inr 86, ev_nt)], [], [])] 80 ⟨rfl, rfl⟩ (by decide +kernel) trivial ⟨?_, trivial⟩
          refine hs_callV C (A := [(.inl (0, 99999), ev_nt), (.inl (0, 0), ev_nt)]) (S := []) (j := 84) (i := 259) (mi := 151) (n := 2) (ci := 9) (E := fun _ => True) (nt_0 l (by omega)) (fun w h => ⟨h, trivial⟩) (fun _ _ _ h => h) (by decide +kernel) rfl rfl rfl (by decide) rfl (by decide) rfl rfl rfl (by decide) (by decide) (by decide) (by decide +kernel) (fun i u x hu hq => ?_)
          match i, hu with
          | 0, hu =>
            cases hu
            have hx0 : x = 0 := hq
            subst hx0
            refine ev_go_mono (I' := fun ws => ∃ y : Int, (0 ≤ y ∧ y ≤ 99999) ∧ mV tp ln (uN cm y σ) (cm + 1) wt wn q ws) (fun w h => h.1) (ev_go_exP (fun y hy => ?_))
            refine hv_go C mV_hI [(84, 19), (84, 21), (84, 22), (84, 23), (84, 24), (84, 25), (97, 999), (98, 999)] [] (3, 61) [] [(46, [none, none], [(.inl (1, 1), ev_nt)], [], [])] 80 ⟨rfl, rfl⟩ (by decide +kernel) trivial ⟨?_, trivial⟩
            exact hs_iret C (i := 1) (fun ls w x _ _ _ hI hx _ => Or.inr ⟨(uN cm y σ, cm + 1, wt, wn, q), ⟨pZ_val hz (Or.inl ⟨hy.1, by omega⟩) hpq, hw1, hw2, hw3, by show pl0 + 1 ≤ q; omega⟩, hI⟩) hret rfl rfl rfl (by decide) rfl rfl rfl (by decide +kernel)
      · refine hv_go C mV_hI [(84, 19), (84, 21), (84, 22), (84, 23), (84, 24), (84, 25), (97, 999), (98, 999)] [kR 58 90, kD0, kq_3002, kq_185] (3, 61) [] [(69, [none, none], [(.inl (0, 0), ev_nt)], [], []), (73, [some (.inr 86, none), none], [(.inl (0, 6), ev_nt), (.inl (1, 1), ev_nt), (.inr 86, ev_nt)], [((2, 84, 19), (0, 239), none)], [])] 80 ⟨rfl, rfl⟩ (by decide +kernel) ⟨heR l 58 90 (by decide) hx, iD0 l (by omega), ek_upS mV_hI (fun _ _ => trivial) rfl (qk_3002 l), ek_upS mV_hI (fun _ _ => trivial) rfl (qk_185 l), trivial⟩ ⟨?_, ?_, trivial⟩
        · exact hs_iret C (i := 0) (fun ls w x _ _ _ hI hx _ => Or.inl rfl) hret rfl rfl rfl (by decide) rfl rfl rfl (by decide +kernel)
        · refine hs_callV C (A := [(.inl (0, 6), ev_nt), (.inl (1, 1), ev_nt)]) (S := []) (j := 84) (i := 259) (mi := 151) (n := 2) (ci := 9) (E := fun _ => True) (nt_1 l (by omega)) (fun w h => ⟨h, trivial⟩) (fun _ _ _ h => h) (by decide +kernel) rfl rfl rfl (by decide) rfl (by decide) rfl rfl rfl (by decide) (by decide) (by decide) (by decide +kernel) (fun i u x hu hq => ?_)
          match i, hu with
          | 0, hu =>
            cases hu
            have hx0 : x = 0 := hq
            subst hx0
            refine ev_go_mono (I' := fun ws => ∃ y : Int, (1048576 ≤ y ∧ y ≤ 1048582) ∧ mV tp ln (uN cm y σ) (cm + 1) wt wn pl ws) (fun w h => h.1) (ev_go_exP (fun y hy => ?_))
            refine hv_go C mV_hI [(84, 19), (84, 21), (84, 22), (84, 23), (84, 24), (84, 25), (97, 999), (98, 999)] [] (3, 61) [] [(83, [none, none], [(.inl (1, 240), (2, 84, 19, 1)), (.inr 86, ev_nt)], [], [])] 80 ⟨rfl, rfl⟩ (by decide +kernel) trivial ⟨?_, trivial⟩
            refine hs_put C (I' := mV tp ln (uN cm y σ) (cm + 1) wt wn (pl + 1)) (i := 222) (ci := 9) (f := 19) (j := 84) (b := (0, 240)) ?_ (by decide +kernel) rfl (by decide) rfl rfl (by decide) (by decide) (by decide) (by decide) (by decide +kernel) ?_
            · intro ls w w' z hw hl hF hI hz tz hp hf
              exact mV_p19 hI hp (by rw [tag_f tz, hI.2.2.2.2.1]; omega)
            · refine hv_go C mV_hI [(84, 19), (84, 21), (84, 22), (84, 23), (84, 24), (84, 25), (97, 999), (98, 999)] [] (3, 61) [] [(87, [none, none], [(.inl (1, 1), ev_nt)], [], [])] 80 ⟨rfl, rfl⟩ (by decide +kernel) trivial ⟨?_, trivial⟩
              exact hs_iret C (i := 1) (fun ls w x _ _ _ hI hx _ => Or.inr ⟨(uN cm y σ, cm + 1, wt, wn, pl + 1), ⟨pZ_val hz (Or.inr hy) (Nat.le_refl _), hw1, hw2, hw3, by show pl0 + 1 ≤ pl + 1; omega⟩, hI⟩) hret rfl rfl rfl (by decide) rfl rfl rfl (by decide +kernel)
      · refine hv_go C mV_hI [(84, 19), (84, 21), (84, 22), (84, 23), (84, 24), (84, 25), (97, 999), (98, 999)] [kR 91 91] (3, 61) [] [(12, [some (.inr 86, none), none], [(.inl (14, 14), ev_nt), (.inr 86, ev_nt)], [((2, 84, 19), (0, 239), none)], [])] 80 ⟨rfl, rfl⟩ (by decide +kernel) ⟨heR l 91 91 (by decide) hx, trivial⟩ ⟨?_, trivial⟩
        refine hs_callV C (A := [(.inl (14, 14), ev_nt)]) (S := []) (j := 84) (i := 263) (mi := 148) (n := 1) (ci := 9) (E := fun _ => True) (op_14 l (by omega)) (fun w h => ⟨h, trivial⟩) (fun _ _ _ h => h) (by decide +kernel) rfl rfl rfl (by decide) rfl (by decide) rfl rfl rfl (by decide) (by decide) (by decide) (by decide +kernel) (fun i u x hu hq => ?_)
        match i, hu with
        | 0, hu =>
          cases hu
          have hx0 : x = 0 := by have h1 := hq.1; have h2 := hq.2; dsimp only at h1 h2; omega
          subst hx0
          refine ev_go_mono (I' := fun _ => True) (fun w h => trivial) ?_
          refine hv_go C tr_hI [(84, 19), (84, 21), (84, 22), (84, 23), (84, 24), (84, 25), (97, 999), (98, 999)] [] (3, 61) [] [(19, [none, none], [(.inl (0, 0), ev_nt)], [], [])] 80 ⟨rfl, rfl⟩ (by decide +kernel) trivial ⟨?_, trivial⟩
          exact hs_iret C (i := 0) (fun ls w x _ _ _ hI hx _ => Or.inl rfl) hret rfl rfl rfl (by decide) rfl rfl rfl (by decide +kernel)
        | 1, hu =>
          cases hu
          have hx0 : x = 1 := by have h1 := hq.1; have h2 := hq.2; dsimp only at h1 h2; omega
          subst hx0
          refine ev_go_mono (I' := mV tp ln σ cm (uN wn 14680064 wt) (wn + 1) (pl + 1)) (fun w h => h.1.resolve_left (by decide)) ?_
          refine hv_go C mV_hI [(84, 19), (84, 21), (84, 22), (84, 23), (84, 24), (84, 25), (97, 999), (98, 999)] [] (3, 61) [] [(0, [some (.inr 86, none), none], [], [], [])] 80 ⟨rfl, rfl⟩ (by decide +kernel) trivial ⟨?_, trivial⟩
          refine ih (240 - (pl + 1)) (by omega) _ _ _ rfl (by omega) (fun j hj => by rw [uN_n _ _ (by omega)]; exact hw2 j hj) (fun j hj1 hj2 => ?_) (by omega) (pZ_push hz ⟨by decide, Or.inr ⟨Or.inr (Or.inr (by decide)), rfl⟩⟩ (fun hb => Or.inl hb))
          rcases Nat.lt_or_ge j wn with h9 | h9
          · rw [uN_n _ _ (by omega)]
            exact hw3 j hj1 h9
          · have e : j = wn := by omega
            subst e
            rw [uN_s]
            decide
      · refine hv_go C mV_hI [(84, 19), (84, 21), (84, 22), (84, 23), (84, 24), (84, 25), (97, 999), (98, 999)] [kR 92 255, kD0, kq_3002, kq_185] (3, 61) [] [(69, [none, none], [(.inl (0, 0), ev_nt)], [], []), (73, [some (.inr 86, none), none], [(.inl (0, 6), ev_nt), (.inl (1, 1), ev_nt), (.inr 86, ev_nt)], [((2, 84, 19), (0, 239), none)], [])] 80 ⟨rfl, rfl⟩ (by decide +kernel) ⟨heR l 92 255 (by decide) hx, iD0 l (by omega), ek_upS mV_hI (fun _ _ => trivial) rfl (qk_3002 l), ek_upS mV_hI (fun _ _ => trivial) rfl (qk_185 l), trivial⟩ ⟨?_, ?_, trivial⟩
        · exact hs_iret C (i := 0) (fun ls w x _ _ _ hI hx _ => Or.inl rfl) hret rfl rfl rfl (by decide) rfl rfl rfl (by decide +kernel)
        · refine hs_callV C (A := [(.inl (0, 6), ev_nt), (.inl (1, 1), ev_nt)]) (S := []) (j := 84) (i := 259) (mi := 151) (n := 2) (ci := 9) (E := fun _ => True) (nt_1 l (by omega)) (fun w h => ⟨h, trivial⟩) (fun _ _ _ h => h) (by decide +kernel) rfl rfl rfl (by decide) rfl (by decide) rfl rfl rfl (by decide) (by decide) (by decide) (by decide +kernel) (fun i u x hu hq => ?_)
          match i, hu with
          | 0, hu =>
            cases hu
            have hx0 : x = 0 := hq
            subst hx0
            refine ev_go_mono (I' := fun ws => ∃ y : Int, (1048576 ≤ y ∧ y ≤ 1048582) ∧ mV tp ln (uN cm y σ) (cm + 1) wt wn pl ws) (fun w h => h.1) (ev_go_exP (fun y hy => ?_))
            refine hv_go C mV_hI [(84, 19), (84, 21), (84, 22), (84, 23), (84, 24), (84, 25), (97, 999), (98, 999)] [] (3, 61) [] [(83, [none, none], [(.inl (1, 240), (2, 84, 19, 1)), (.inr 86, ev_nt)], [], [])] 80 ⟨rfl, rfl⟩ (by decide +kernel) trivial ⟨?_, trivial⟩
            refine hs_put C (I' := mV tp ln (uN cm y σ) (cm + 1) wt wn (pl + 1)) (i := 222) (ci := 9) (f := 19) (j := 84) (b := (0, 240)) ?_ (by decide +kernel) rfl (by decide) rfl rfl (by decide) (by decide) (by decide) (by decide) (by decide +kernel) ?_
            · intro ls w w' z hw hl hF hI hz tz hp hf
              exact mV_p19 hI hp (by rw [tag_f tz, hI.2.2.2.2.1]; omega)
            · refine hv_go C mV_hI [(84, 19), (84, 21), (84, 22), (84, 23), (84, 24), (84, 25), (97, 999), (98, 999)] [] (3, 61) [] [(87, [none, none], [(.inl (1, 1), ev_nt)], [], [])] 80 ⟨rfl, rfl⟩ (by decide +kernel) trivial ⟨?_, trivial⟩
              exact hs_iret C (i := 1) (fun ls w x _ _ _ hI hx _ => Or.inr ⟨(uN cm y σ, cm + 1, wt, wn, pl + 1), ⟨pZ_val hz (Or.inr hy) (Nat.le_refl _), hw1, hw2, hw3, by show pl0 + 1 ≤ pl + 1; omega⟩, hI⟩) hret rfl rfl rfl (by decide) rfl rfl rfl (by decide +kernel)
  exact loop _ wt0 wn0 pl0 rfl (Nat.le_refl _) (fun _ _ => rfl) (fun j h1 h2 => absurd h2 (by omega)) (Nat.le_refl _) hz
