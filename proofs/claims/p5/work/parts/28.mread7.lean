theorem pZ_N {g : Nat → Int} {s : Nat} {need how : Int} {B N N' : Prop} {σ : Nat → Int} {c : Nat} {wt : Nat → Int} {w p : Nat} (h : pZ g s need how B N σ c wt w p) (hN : N' → N) : pZ g s need how B N' σ c wt w p := by
  obtain ⟨h1, h2, h3, h4, h5, h6, h7⟩ := h
  exact ⟨h1, h2, h3, h4, h5, fun n => h6 (hN n), h7⟩
theorem pZ_B {g : Nat → Int} {s : Nat} {need how : Int} {B B' N : Prop} {σ : Nat → Int} {c : Nat} {wt : Nat → Int} {w p : Nat} (h : pZ g s need how B N σ c wt w p) (hB : B' → B) : pZ g s need how B' N σ c wt w p := by
  obtain ⟨h1, h2, h3, h4, h5, h6⟩ := h
  exact ⟨h1, h2, h3, h4, fun n => h5 (hB n), h6⟩
def kP : ek := (158, [.inr 86], [], [(84, 19), (84, 21), (84, 22), (84, 23), (84, 24), (84, 25), (97, 999), (98, 999)], [(some (.inl (0, 0)), []), (some (.inl (1, 1)), [])], 5, 104)
theorem rC (l : Launch) {g : Nat → Int} {sg : Nat} {B N : Prop} {tp : Nat → Int} {ln : Nat} {σ0 : Nat → Int} {cm0 : Nat} {wt0 : Nat → Int} {wn0 pl0 : Nat} (hz0 : pZ g sg 0 0 B N σ0 cm0 wt0 wn0 pl0) : hk_ok l tQ (mV tp ln σ0 cm0 wt0 wn0 pl0) (fun i _ ws => i = 0 ∨ ∃ v : (Nat → Int) × Nat × (Nat → Int) × Nat × Nat, (pZ g sg 1 0 B N v.1 v.2.1 v.2.2.1 v.2.2.2.1 v.2.2.2.2 ∧ pl0 + 1 ≤ v.2.2.2.2) ∧ mV tp ln v.1 v.2.1 v.2.2.1 v.2.2.2.1 v.2.2.2.2 ws) kP := by
  refine hk_ok_of (o := 9) (r := (yX9_readsCompared, prog_11_method_28_code, 2, some .boolean)) rfl rfl (by decide +kernel) (by decide) rfl (fun p e s m args below meth c D tys aK aV b0 ad w0 C hret => ?_)
  refine hv_go C mV_hI [(84, 19), (84, 21), (84, 22), (84, 23), (84, 24), (84, 25), (97, 999), (98, 999)] [] (5, 104) [] [(1, [some (.inr 86, none), none], [(.inr 86, ev_nt)], [], [])] 80 ⟨rfl, rfl⟩ (by decide +kernel) trivial ⟨?_, trivial⟩
  refine hs_callV C (A := []) (S := []) (j := 84) (i := 287) (mi := 146) (n := 0) (ci := 9) (E := fun _ => True) (rS l hz0 (by omega) (by omega)) (fun w h => ⟨h, trivial⟩) (fun _ _ _ h => h) (by decide +kernel) rfl rfl rfl (by decide) rfl (by decide) rfl rfl rfl (by decide) (by decide) (by decide) (by decide +kernel) (fun i u x hu hq => ?_)
  match i, hu with
  | 0, hu =>
    cases hu
    have hx0 : x = 0 := by have h1 := hq.1; have h2 := hq.2; dsimp only at h1 h2; omega
    subst hx0
    refine ev_go_mono (I' := fun _ => True) (fun w h => trivial) ?_
    refine hv_go C tr_hI [(84, 19), (84, 21), (84, 22), (84, 23), (84, 24), (84, 25), (97, 999), (98, 999)] [] (5, 104) [] [(8, [none, none], [(.inl (0, 0), ev_nt)], [], [])] 80 ⟨rfl, rfl⟩ (by decide +kernel) trivial ⟨?_, trivial⟩
    exact hs_iret C (i := 0) (fun ls w x _ _ _ hI hx _ => Or.inl rfl) hret rfl rfl rfl (by decide) rfl rfl rfl (by decide +kernel)
  | 1, hu =>
    cases hu
    have hx0 : x = 1 := by have h1 := hq.1; have h2 := hq.2; dsimp only at h1 h2; omega
    subst hx0
    refine ev_go_mono (fun w h => h.1.resolve_left (by decide)) (ev_go_exP (fun v hv => ?_))
    obtain ⟨σ, cm, wt, wn, pl⟩ := v
    obtain ⟨hz, hp1⟩ := hv
    dsimp only at hz hp1
    refine ev_go_mono (I' := mV tp ln σ cm wt wn pl) (fun w h => h) ?_
    refine ev_go_w (P := pl ≤ 240) (fun w hw h => mV_240 hw h) (fun hpl => ?_)
    have hz : pZ g sg 1 0 B N σ cm wt wn pl := hz
    have hrr := hr_rng tp ln pl
    have hx : hr tp ln pl = -1 ∨ (0 ≤ hr tp ln pl ∧ hr tp ln pl ≤ 59) ∨ (60 ≤ hr tp ln pl ∧ hr tp ln pl ≤ 60) ∨ (61 ≤ hr tp ln pl ∧ hr tp ln pl ≤ 61) ∨ (62 ≤ hr tp ln pl ∧ hr tp ln pl ≤ 62) ∨ (63 ≤ hr tp ln pl ∧ hr tp ln pl ≤ 255) := by omega
    rcases hx with hx | hx | hx | hx | hx | hx
    · refine hv_go C mV_hI [(84, 19), (84, 21), (84, 22), (84, 23), (84, 24), (84, 25), (97, 999), (98, 999)] [kRn, kq_185] (5, 104) [] [(67, [none, none], [(.inl (0, 0), ev_nt)], [], [])] 80 ⟨rfl, rfl⟩ (by decide +kernel) ⟨heN l hx, ek_upS mV_hI (fun _ _ => trivial) rfl (qk_185 l), trivial⟩ ⟨?_, trivial⟩
      exact hs_iret C (i := 0) (fun ls w x _ _ _ hI hx _ => Or.inl rfl) hret rfl rfl rfl (by decide) rfl rfl rfl (by decide +kernel)
    · refine hv_go C mV_hI [(84, 19), (84, 21), (84, 22), (84, 23), (84, 24), (84, 25), (97, 999), (98, 999)] [kR 0 59, kq_185] (5, 104) [] [(67, [none, none], [(.inl (0, 0), ev_nt)], [], [])] 80 ⟨rfl, rfl⟩ (by decide +kernel) ⟨heR l 0 59 (by decide) hx, ek_upS mV_hI (fun _ _ => trivial) rfl (qk_185 l), trivial⟩ ⟨?_, trivial⟩
      exact hs_iret C (i := 0) (fun ls w x _ _ _ hI hx _ => Or.inl rfl) hret rfl rfl rfl (by decide) rfl rfl rfl (by decide +kernel)
    · refine hv_go C mV_hI [(84, 19), (84, 21), (84, 22), (84, 23), (84, 24), (84, 25), (97, 999), (98, 999)] [kR 60 60] (5, 104) [] [(75, [some (.inr 86, none), some (.inl (7, 7), none)], [(.inl (1, 240), (2, 84, 19, 1)), (.inr 86, ev_nt)], [], [])] 80 ⟨rfl, rfl⟩ (by decide +kernel) ⟨heR l 60 60 (by decide) hx, trivial⟩ ⟨?_, trivial⟩
      refine hs_put C (I' := mV tp ln σ cm wt wn (pl + 1)) (i := 222) (ci := 9) (f := 19) (j := 84) (b := (0, 240)) ?_ (by decide +kernel) rfl (by decide) rfl rfl (by decide) (by decide) (by decide) (by decide) (by decide +kernel) ?_
      · intro ls w w' z hw hl hF hI hz tz hp hf
        exact mV_p19 hI hp (by rw [tag_f tz, hI.2.2.2.2.1]; omega)
      · refine hv_go C mV_hI [(84, 19), (84, 21), (84, 22), (84, 23), (84, 24), (84, 25), (97, 999), (98, 999)] [] (5, 104) [] [(79, [some (.inr 86, none), some (.inl (7, 7), none)], [(.inr 86, ev_nt)], [], [])] 80 ⟨rfl, rfl⟩ (by decide +kernel) trivial ⟨?_, trivial⟩
        refine hs_callV C (A := []) (S := []) (j := 84) (i := 287) (mi := 146) (n := 0) (ci := 9) (E := fun _ => True) (rS l (need := 1) (how := 1) (pZ_on hz (by omega) (by omega)) (by omega) (by omega)) (fun w h => ⟨h, trivial⟩) (fun _ _ _ h => h) (by decide +kernel) rfl rfl rfl (by decide) rfl (by decide) rfl rfl rfl (by decide) (by decide) (by decide) (by decide +kernel) (fun i u x hu hq => ?_)
        match i, hu with
        | 0, hu =>
          cases hu
          have hx0 : x = 0 := by have h1 := hq.1; have h2 := hq.2; dsimp only at h1 h2; omega
          subst hx0
          refine ev_go_mono (I' := fun _ => True) (fun w h => trivial) ?_
          refine hv_go C tr_hI [(84, 19), (84, 21), (84, 22), (84, 23), (84, 24), (84, 25), (97, 999), (98, 999)] [] (5, 104) [] [(86, [none, none], [(.inl (0, 0), ev_nt)], [], [])] 80 ⟨rfl, rfl⟩ (by decide +kernel) trivial ⟨?_, trivial⟩
          exact hs_iret C (i := 0) (fun ls w x _ _ _ hI hx _ => Or.inl rfl) hret rfl rfl rfl (by decide) rfl rfl rfl (by decide +kernel)
        | 1, hu =>
          cases hu
          have hx0 : x = 1 := by have h1 := hq.1; have h2 := hq.2; dsimp only at h1 h2; omega
          subst hx0
          refine ev_go_mono (fun w h => h.1.resolve_left (by decide)) (ev_go_exP (fun v hv => ?_))
          obtain ⟨σ2, cm2, wt2, wn2, pl2⟩ := v
          obtain ⟨hz2, hp2⟩ := hv
          dsimp only at hz2 hp2
          refine ev_go_mono (I' := mV tp ln σ2 cm2 wt2 wn2 pl2) (fun w h => h) ?_
          refine ev_go_w (P := pl2 ≤ 240) (fun w hw h => mV_240 hw h) (fun hpl2 => ?_)
          have hz2 : pZ g sg 2 1 B N σ2 cm2 wt2 wn2 pl2 := hz2
          have hb2 : (cm2 : Int) ≤ pl2 := by
            have := hz2.2.2.2.1
            have := cnt_nn (q := qN) (wt := wt2) wn2
            omega
          refine hv_go C mV_hI [(84, 19), (84, 21), (84, 22), (84, 23), (84, 24), (84, 25), (97, 999), (98, 999)] [] (5, 104) [] [(90, [some (.inr 86, none), none], [(.inl (0, 0), ev_nt), (.inl (7, 7), ev_nt), (.inr 86, ev_nt)], [], [])] 80 ⟨rfl, rfl⟩ (by decide +kernel) trivial ⟨?_, trivial⟩
          refine hs_callV C (A := [(.inl (0, 0), ev_nt), (.inl (7, 7), ev_nt)]) (S := []) (j := 84) (i := 259) (mi := 151) (n := 2) (ci := 9) (E := fun _ => True) (nt_7 l (by omega)) (fun w h => ⟨h, trivial⟩) (fun _ _ _ h => h) (by decide +kernel) rfl rfl rfl (by decide) rfl (by decide) rfl rfl rfl (by decide) (by decide) (by decide) (by decide +kernel) (fun i u x hu hq => ?_)
          match i, hu with
          | 0, hu =>
            cases hu
            have hx0 : x = 0 := hq
            subst hx0
            refine ev_go_mono (I' := fun ws => ∃ y : Int, (7340032 ≤ y ∧ y ≤ 7340032) ∧ mV tp ln (uN cm2 y σ2) (cm2 + 1) wt2 wn2 pl2 ws) (fun w h => h.1) (ev_go_exP (fun y hy => ?_))
            refine hv_go C mV_hI [(84, 19), (84, 21), (84, 22), (84, 23), (84, 24), (84, 25), (97, 999), (98, 999)] [] (5, 104) [] [(94, [some (.inr 86, none), none], [(.inr 86, ev_nt)], [], [])] 80 ⟨rfl, rfl⟩ (by decide +kernel) trivial ⟨?_, trivial⟩
            refine hs_callV C (A := []) (S := []) (j := 84) (i := 290) (mi := 159) (n := 0) (ci := 9) (E := fun _ => True) (eP l (pZ_cmp (y := y) hz2 (by omega))) (fun w h => ⟨h, trivial⟩) (fun _ _ _ h => h) (by decide +kernel) rfl rfl rfl (by decide) rfl (by decide) rfl rfl rfl (by decide) (by decide) (by decide) (by decide +kernel) (fun i u x hu hq => ?_)
            match i, hu with
            | 0, hu =>
              cases hu
              have hx0 : x = 0 := hq
              subst hx0
              refine ev_go_mono (fun w h => h.1) (ev_go_exP (fun v hv => ?_))
              refine hv_go C mV_hI [(84, 19), (84, 21), (84, 22), (84, 23), (84, 24), (84, 25), (97, 999), (98, 999)] [] (5, 104) [] [(98, [none, none], [(.inl (1, 1), ev_nt)], [], [])] 80 ⟨rfl, rfl⟩ (by decide +kernel) trivial ⟨?_, trivial⟩
              exact hs_iret C (i := 1) (fun ls w x _ _ _ hI hx _ => Or.inr ⟨(v.1, v.2.1, wt2, v.2.2, pl2), ⟨hv, by show pl0 + 1 ≤ pl2; omega⟩, hI⟩) hret rfl rfl rfl (by decide) rfl rfl rfl (by decide +kernel)
    · refine hv_go C mV_hI [(84, 19), (84, 21), (84, 22), (84, 23), (84, 24), (84, 25), (97, 999), (98, 999)] [kR 61 61] (5, 104) [] [(75, [some (.inr 86, none), some (.inl (9, 9), none)], [(.inl (1, 240), (2, 84, 19, 1)), (.inr 86, ev_nt)], [], [])] 80 ⟨rfl, rfl⟩ (by decide +kernel) ⟨heR l 61 61 (by decide) hx, trivial⟩ ⟨?_, trivial⟩
      refine hs_put C (I' := mV tp ln σ cm wt wn (pl + 1)) (i := 222) (ci := 9) (f := 19) (j := 84) (b := (0, 240)) ?_ (by decide +kernel) rfl (by decide) rfl rfl (by decide) (by decide) (by decide) (by decide) (by decide +kernel) ?_
      · intro ls w w' z hw hl hF hI hz tz hp hf
        exact mV_p19 hI hp (by rw [tag_f tz, hI.2.2.2.2.1]; omega)
      · refine hv_go C mV_hI [(84, 19), (84, 21), (84, 22), (84, 23), (84, 24), (84, 25), (97, 999), (98, 999)] [] (5, 104) [] [(79, [some (.inr 86, none), some (.inl (9, 9), none)], [(.inr 86, ev_nt)], [], [])] 80 ⟨rfl, rfl⟩ (by decide +kernel) trivial ⟨?_, trivial⟩
        refine hs_callV C (A := []) (S := []) (j := 84) (i := 287) (mi := 146) (n := 0) (ci := 9) (E := fun _ => True) (rS l (need := 1) (how := 1) (pZ_on hz (by omega) (by omega)) (by omega) (by omega)) (fun w h => ⟨h, trivial⟩) (fun _ _ _ h => h) (by decide +kernel) rfl rfl rfl (by decide) rfl (by decide) rfl rfl rfl (by decide) (by decide) (by decide) (by decide +kernel) (fun i u x hu hq => ?_)
        match i, hu with
        | 0, hu =>
          cases hu
          have hx0 : x = 0 := by have h1 := hq.1; have h2 := hq.2; dsimp only at h1 h2; omega
          subst hx0
          refine ev_go_mono (I' := fun _ => True) (fun w h => trivial) ?_
          refine hv_go C tr_hI [(84, 19), (84, 21), (84, 22), (84, 23), (84, 24), (84, 25), (97, 999), (98, 999)] [] (5, 104) [] [(86, [none, none], [(.inl (0, 0), ev_nt)], [], [])] 80 ⟨rfl, rfl⟩ (by decide +kernel) trivial ⟨?_, trivial⟩
          exact hs_iret C (i := 0) (fun ls w x _ _ _ hI hx _ => Or.inl rfl) hret rfl rfl rfl (by decide) rfl rfl rfl (by decide +kernel)
        | 1, hu =>
          cases hu
          have hx0 : x = 1 := by have h1 := hq.1; have h2 := hq.2; dsimp only at h1 h2; omega
          subst hx0
          refine ev_go_mono (fun w h => h.1.resolve_left (by decide)) (ev_go_exP (fun v hv => ?_))
          obtain ⟨σ2, cm2, wt2, wn2, pl2⟩ := v
          obtain ⟨hz2, hp2⟩ := hv
          dsimp only at hz2 hp2
          refine ev_go_mono (I' := mV tp ln σ2 cm2 wt2 wn2 pl2) (fun w h => h) ?_
          refine ev_go_w (P := pl2 ≤ 240) (fun w hw h => mV_240 hw h) (fun hpl2 => ?_)
          have hz2 : pZ g sg 2 1 B N σ2 cm2 wt2 wn2 pl2 := hz2
          have hb2 : (cm2 : Int) ≤ pl2 := by
            have := hz2.2.2.2.1
            have := cnt_nn (q := qN) (wt := wt2) wn2
            omega
          refine hv_go C mV_hI [(84, 19), (84, 21), (84, 22), (84, 23), (84, 24), (84, 25), (97, 999), (98, 999)] [] (5, 104) [] [(90, [some (.inr 86, none), none], [(.inl (0, 0), ev_nt), (.inl (9, 9), ev_nt), (.inr 86, ev_nt)], [], [])] 80 ⟨rfl, rfl⟩ (by decide +kernel) trivial ⟨?_, trivial⟩
          refine hs_callV C (A := [(.inl (0, 0), ev_nt), (.inl (9, 9), ev_nt)]) (S := []) (j := 84) (i := 259) (mi := 151) (n := 2) (ci := 9) (E := fun _ => True) (nt_9 l (by omega)) (fun w h => ⟨h, trivial⟩) (fun _ _ _ h => h) (by decide +kernel) rfl rfl rfl (by decide) rfl (by decide) rfl rfl rfl (by decide) (by decide) (by decide) (by decide +kernel) (fun i u x hu hq => ?_)
          match i, hu with
          | 0, hu =>
            cases hu
            have hx0 : x = 0 := hq
            subst hx0
            refine ev_go_mono (I' := fun ws => ∃ y : Int, (9437184 ≤ y ∧ y ≤ 9437184) ∧ mV tp ln (uN cm2 y σ2) (cm2 + 1) wt2 wn2 pl2 ws) (fun w h => h.1) (ev_go_exP (fun y hy => ?_))
            refine hv_go C mV_hI [(84, 19), (84, 21), (84, 22), (84, 23), (84, 24), (84, 25), (97, 999), (98, 999)] [] (5, 104) [] [(94, [some (.inr 86, none), none], [(.inr 86, ev_nt)], [], [])] 80 ⟨rfl, rfl⟩ (by decide +kernel) trivial ⟨?_, trivial⟩
            refine hs_callV C (A := []) (S := []) (j := 84) (i := 290) (mi := 159) (n := 0) (ci := 9) (E := fun _ => True) (eP l (pZ_cmp (y := y) hz2 (by omega))) (fun w h => ⟨h, trivial⟩) (fun _ _ _ h => h) (by decide +kernel) rfl rfl rfl (by decide) rfl (by decide) rfl rfl rfl (by decide) (by decide) (by decide) (by decide +kernel) (fun i u x hu hq => ?_)
            match i, hu with
            | 0, hu =>
              cases hu
              have hx0 : x = 0 := hq
              subst hx0
              refine ev_go_mono (fun w h => h.1) (ev_go_exP (fun v hv => ?_))
              refine hv_go C mV_hI [(84, 19), (84, 21), (84, 22), (84, 23), (84, 24), (84, 25), (97, 999), (98, 999)] [] (5, 104) [] [(98, [none, none], [(.inl (1, 1), ev_nt)], [], [])] 80 ⟨rfl, rfl⟩ (by decide +kernel) trivial ⟨?_, trivial⟩
              exact hs_iret C (i := 1) (fun ls w x _ _ _ hI hx _ => Or.inr ⟨(v.1, v.2.1, wt2, v.2.2, pl2), ⟨hv, by show pl0 + 1 ≤ pl2; omega⟩, hI⟩) hret rfl rfl rfl (by decide) rfl rfl rfl (by decide +kernel)
    · refine hv_go C mV_hI [(84, 19), (84, 21), (84, 22), (84, 23), (84, 24), (84, 25), (97, 999), (98, 999)] [kR 62 62] (5, 104) [] [(75, [some (.inr 86, none), some (.inl (8, 8), none)], [(.inl (1, 240), (2, 84, 19, 1)), (.inr 86, ev_nt)], [], [])] 80 ⟨rfl, rfl⟩ (by decide +kernel) ⟨heR l 62 62 (by decide) hx, trivial⟩ ⟨?_, trivial⟩
      refine hs_put C (I' := mV tp ln σ cm wt wn (pl + 1)) (i := 222) (ci := 9) (f := 19) (j := 84) (b := (0, 240)) ?_ (by decide +kernel) rfl (by decide) rfl rfl (by decide) (by decide) (by decide) (by decide) (by decide +kernel) ?_
      · intro ls w w' z hw hl hF hI hz tz hp hf
        exact mV_p19 hI hp (by rw [tag_f tz, hI.2.2.2.2.1]; omega)
      · refine hv_go C mV_hI [(84, 19), (84, 21), (84, 22), (84, 23), (84, 24), (84, 25), (97, 999), (98, 999)] [] (5, 104) [] [(79, [some (.inr 86, none), some (.inl (8, 8), none)], [(.inr 86, ev_nt)], [], [])] 80 ⟨rfl, rfl⟩ (by decide +kernel) trivial ⟨?_, trivial⟩
        refine hs_callV C (A := []) (S := []) (j := 84) (i := 287) (mi := 146) (n := 0) (ci := 9) (E := fun _ => True) (rS l (need := 1) (how := 1) (pZ_on hz (by omega) (by omega)) (by omega) (by omega)) (fun w h => ⟨h, trivial⟩) (fun _ _ _ h => h) (by decide +kernel) rfl rfl rfl (by decide) rfl (by decide) rfl rfl rfl (by decide) (by decide) (by decide) (by decide +kernel) (fun i u x hu hq => ?_)
        match i, hu with
        | 0, hu =>
          cases hu
          have hx0 : x = 0 := by have h1 := hq.1; have h2 := hq.2; dsimp only at h1 h2; omega
          subst hx0
          refine ev_go_mono (I' := fun _ => True) (fun w h => trivial) ?_
          refine hv_go C tr_hI [(84, 19), (84, 21), (84, 22), (84, 23), (84, 24), (84, 25), (97, 999), (98, 999)] [] (5, 104) [] [(86, [none, none], [(.inl (0, 0), ev_nt)], [], [])] 80 ⟨rfl, rfl⟩ (by decide +kernel) trivial ⟨?_, trivial⟩
          exact hs_iret C (i := 0) (fun ls w x _ _ _ hI hx _ => Or.inl rfl) hret rfl rfl rfl (by decide) rfl rfl rfl (by decide +kernel)
        | 1, hu =>
          cases hu
          have hx0 : x = 1 := by have h1 := hq.1; have h2 := hq.2; dsimp only at h1 h2; omega
          subst hx0
          refine ev_go_mono (fun w h => h.1.resolve_left (by decide)) (ev_go_exP (fun v hv => ?_))
          obtain ⟨σ2, cm2, wt2, wn2, pl2⟩ := v
          obtain ⟨hz2, hp2⟩ := hv
          dsimp only at hz2 hp2
          refine ev_go_mono (I' := mV tp ln σ2 cm2 wt2 wn2 pl2) (fun w h => h) ?_
          refine ev_go_w (P := pl2 ≤ 240) (fun w hw h => mV_240 hw h) (fun hpl2 => ?_)
          have hz2 : pZ g sg 2 1 B N σ2 cm2 wt2 wn2 pl2 := hz2
          have hb2 : (cm2 : Int) ≤ pl2 := by
            have := hz2.2.2.2.1
            have := cnt_nn (q := qN) (wt := wt2) wn2
            omega
          refine hv_go C mV_hI [(84, 19), (84, 21), (84, 22), (84, 23), (84, 24), (84, 25), (97, 999), (98, 999)] [] (5, 104) [] [(90, [some (.inr 86, none), none], [(.inl (0, 0), ev_nt), (.inl (8, 8), ev_nt), (.inr 86, ev_nt)], [], [])] 80 ⟨rfl, rfl⟩ (by decide +kernel) trivial ⟨?_, trivial⟩
          refine hs_callV C (A := [(.inl (0, 0), ev_nt), (.inl (8, 8), ev_nt)]) (S := []) (j := 84) (i := 259) (mi := 151) (n := 2) (ci := 9) (E := fun _ => True) (nt_8 l (by omega)) (fun w h => ⟨h, trivial⟩) (fun _ _ _ h => h) (by decide +kernel) rfl rfl rfl (by decide) rfl (by decide) rfl rfl rfl (by decide) (by decide) (by decide) (by decide +kernel) (fun i u x hu hq => ?_)
          match i, hu with
          | 0, hu =>
            cases hu
            have hx0 : x = 0 := hq
            subst hx0
            refine ev_go_mono (I' := fun ws => ∃ y : Int, (8388608 ≤ y ∧ y ≤ 8388608) ∧ mV tp ln (uN cm2 y σ2) (cm2 + 1) wt2 wn2 pl2 ws) (fun w h => h.1) (ev_go_exP (fun y hy => ?_))
            refine hv_go C mV_hI [(84, 19), (84, 21), (84, 22), (84, 23), (84, 24), (84, 25), (97, 999), (98, 999)] [] (5, 104) [] [(94, [some (.inr 86, none), none], [(.inr 86, ev_nt)], [], [])] 80 ⟨rfl, rfl⟩ (by decide +kernel) trivial ⟨?_, trivial⟩
            refine hs_callV C (A := []) (S := []) (j := 84) (i := 290) (mi := 159) (n := 0) (ci := 9) (E := fun _ => True) (eP l (pZ_cmp (y := y) hz2 (by omega))) (fun w h => ⟨h, trivial⟩) (fun _ _ _ h => h) (by decide +kernel) rfl rfl rfl (by decide) rfl (by decide) rfl rfl rfl (by decide) (by decide) (by decide) (by decide +kernel) (fun i u x hu hq => ?_)
            match i, hu with
            | 0, hu =>
              cases hu
              have hx0 : x = 0 := hq
              subst hx0
              refine ev_go_mono (fun w h => h.1) (ev_go_exP (fun v hv => ?_))
              refine hv_go C mV_hI [(84, 19), (84, 21), (84, 22), (84, 23), (84, 24), (84, 25), (97, 999), (98, 999)] [] (5, 104) [] [(98, [none, none], [(.inl (1, 1), ev_nt)], [], [])] 80 ⟨rfl, rfl⟩ (by decide +kernel) trivial ⟨?_, trivial⟩
              exact hs_iret C (i := 1) (fun ls w x _ _ _ hI hx _ => Or.inr ⟨(v.1, v.2.1, wt2, v.2.2, pl2), ⟨hv, by show pl0 + 1 ≤ pl2; omega⟩, hI⟩) hret rfl rfl rfl (by decide) rfl rfl rfl (by decide +kernel)
    · refine hv_go C mV_hI [(84, 19), (84, 21), (84, 22), (84, 23), (84, 24), (84, 25), (97, 999), (98, 999)] [kR 63 255, kq_185] (5, 104) [] [(67, [none, none], [(.inl (0, 0), ev_nt)], [], [])] 80 ⟨rfl, rfl⟩ (by decide +kernel) ⟨heR l 63 255 (by decide) hx, ek_upS mV_hI (fun _ _ => trivial) rfl (qk_185 l), trivial⟩ ⟨?_, trivial⟩
      exact hs_iret C (i := 0) (fun ls w x _ _ _ hI hx _ => Or.inl rfl) hret rfl rfl rfl (by decide) rfl rfl rfl (by decide +kernel)
