def kQ : ek := (157, [.inr 86], [], [(84, 19), (84, 21), (84, 22), (84, 23), (84, 24), (84, 25), (97, 999), (98, 999)], [(some (.inl (0, 0)), []), (some (.inl (1, 1)), [])], 6, 125)
theorem rQ (l : Launch) {g : Nat → Int} {sg : Nat} {tp : Nat → Int} {ln : Nat} {σ0 : Nat → Int} {wt0 : Nat → Int} {wn0 pl0 : Nat} (hg : ∀ k, k < sg → σ0 k = g k) (hc0 : sg ≤ pl0) : hk_ok l tQ (mV tp ln σ0 sg wt0 wn0 pl0) (fun i _ ws => i = 0 ∨ ∃ v : (Nat → Int) × Nat × (Nat → Int) × Nat, (mSeg v.1 sg v.2.1 ∧ (∀ k, k < sg → v.1 k = g k) ∧ v.2.1 ≤ v.2.2.2 ∧ pl0 ≤ v.2.2.2) ∧ mV tp ln v.1 v.2.1 v.2.2.1 0 v.2.2.2 ws) kQ := by
  refine hk_ok_of (o := 9) (r := (yX9_readsCondition, prog_11_method_29_code, 1, some .boolean)) rfl rfl (by decide +kernel) (by decide) rfl (fun p e s m args below meth c D tys aK aV b0 ad w0 C hret => ?_)
  refine ev_go_w (P := ln ≤ 240) (fun w hw h => ?_) (fun hln => ?_)
  · have h1 := (gI_rng (j := 84) (f := 20) hw rfl rfl).1.2
    rw [h.2.2.2.2.2.2] at h1
    dsimp only at h1
    omega
  have loop : ∀ d : Nat, (∀ (σ : Nat → Int) (cm : Nat) (wt : Nat → Int) (wn pl : Nat), 240 - pl = d → pl0 ≤ pl → pZ g sg 0 0 True False σ cm wt wn pl → ev_go p l e (ek_rm kQ) s m args below meth c (MQ below (hk_qc D tys tQ (fun i _ ws => i = 0 ∨ ∃ v : (Nat → Int) × Nat × (Nat → Int) × Nat, (mSeg v.1 sg v.2.1 ∧ (∀ k, k < sg → v.1 k = g k) ∧ v.2.1 ≤ v.2.2.2 ∧ pl0 ≤ v.2.2.2) ∧ mV tp ln v.1 v.2.1 v.2.2.1 0 v.2.2.2 ws) b0 ad w0 kQ true) args s 0 0 (fun q => b0 ≤ q)) D tys tQ (mV tp ln σ cm wt wn pl) b0 1 ad w0 [(84, 19), (84, 21), (84, 22), (84, 23), (84, 24), (84, 25), (97, 999), (98, 999)] (fun _ => 0) (40, [some (.inr 86, none)], [], [], [])) ∧ (∀ (σ : Nat → Int) (cm : Nat) (wt : Nat → Int) (wn pl : Nat), 240 - pl = d → pl0 ≤ pl → pZ g sg 1 0 True False σ cm wt wn pl → ev_go p l e (ek_rm kQ) s m args below meth c (MQ below (hk_qc D tys tQ (fun i _ ws => i = 0 ∨ ∃ v : (Nat → Int) × Nat × (Nat → Int) × Nat, (mSeg v.1 sg v.2.1 ∧ (∀ k, k < sg → v.1 k = g k) ∧ v.2.1 ≤ v.2.2.2 ∧ pl0 ≤ v.2.2.2) ∧ mV tp ln v.1 v.2.1 v.2.2.1 0 v.2.2.2 ws) b0 ad w0 kQ true) args s 0 0 (fun q => b0 ≤ q)) D tys tQ (mV tp ln σ cm wt wn pl) b0 1 ad w0 [(84, 19), (84, 21), (84, 22), (84, 23), (84, 24), (84, 25), (97, 999), (98, 999)] (fun _ => 0) (92, [some (.inr 86, none)], [], [], [])) := by
    intro d
    induction d using Nat.strongRecOn with
    | _ d ih =>
      refine ⟨?_, ?_⟩
      · intro σ cm wt wn pl hd hp0 hz
        have hb1 : wn ≤ pl := hz.2.2.1
        refine ev_go_w (P := pl ≤ 240) (fun w hw h => mV_240 hw h) (fun hpl => ?_)
        have hrr := hr_rng tp ln pl
        have hx : hr tp ln pl = -1 ∨ (0 ≤ hr tp ln pl ∧ hr tp ln pl ≤ 32) ∨ (33 ≤ hr tp ln pl ∧ hr tp ln pl ≤ 33) ∨ (34 ≤ hr tp ln pl ∧ hr tp ln pl ≤ 39) ∨ (40 ≤ hr tp ln pl ∧ hr tp ln pl ≤ 40) ∨ (41 ≤ hr tp ln pl ∧ hr tp ln pl ≤ 255) := by omega
        rcases hx with hx | hx | hx | hx | hx | hx
        · refine hv_go C mV_hI [(84, 19), (84, 21), (84, 22), (84, 23), (84, 24), (84, 25), (97, 999), (98, 999)] [kRn] (6, 125) [] [(84, [some (.inr 86, none)], [(.inr 86, ev_nt)], [], [])] 80 ⟨rfl, rfl⟩ (by decide +kernel) ⟨heN l hx, trivial⟩ ⟨?_, trivial⟩
          refine hs_callV C (A := []) (S := []) (j := 84) (i := 293) (mi := 158) (n := 0) (ci := 9) (E := fun _ => True) (rC l hz) (fun w h => ⟨h, trivial⟩) (fun _ _ _ h => h) (by decide +kernel) rfl rfl rfl (by decide) rfl (by decide) rfl rfl rfl (by decide) (by decide) (by decide) (by decide +kernel) (fun i u x hu hq => ?_)
          match i, hu with
          | 0, hu =>
            cases hu
            have hx0 : x = 0 := by have h1 := hq.1; have h2 := hq.2; dsimp only at h1 h2; omega
            subst hx0
            refine ev_go_mono (I' := fun _ => True) (fun w h => trivial) ?_
            refine hv_go C tr_hI [(84, 19), (84, 21), (84, 22), (84, 23), (84, 24), (84, 25), (97, 999), (98, 999)] [] (6, 125) [] [(91, [none], [(.inl (0, 0), ev_nt)], [], [])] 80 ⟨rfl, rfl⟩ (by decide +kernel) trivial ⟨?_, trivial⟩
            exact hs_iret C (i := 0) (fun ls w x _ _ _ hI hx _ => Or.inl rfl) hret rfl rfl rfl (by decide) rfl rfl rfl (by decide +kernel)
          | 1, hu =>
            cases hu
            have hx0 : x = 1 := by have h1 := hq.1; have h2 := hq.2; dsimp only at h1 h2; omega
            subst hx0
            refine ev_go_mono (fun w h => h.1.resolve_left (by decide)) (ev_go_exP (fun v hv => ?_))
            obtain ⟨σ2, cm2, wt2, wn2, pl2⟩ := v
            obtain ⟨hz2, hp2⟩ := hv
            dsimp only at hz2 hp2
            refine ev_go_mono (I' := mV tp ln σ2 cm2 wt2 wn2 pl2) (fun w h => h) ?_
            refine ev_go_w (P := pl2 ≤ 240) (fun w hw h => mV_240 hw h) (fun hpl2 => ?_)
            refine hv_go C mV_hI [(84, 19), (84, 21), (84, 22), (84, 23), (84, 24), (84, 25), (97, 999), (98, 999)] [] (6, 125) [] [(92, [some (.inr 86, none)], [], [], [])] 80 ⟨rfl, rfl⟩ (by decide +kernel) trivial ⟨?_, trivial⟩
            exact (ih (240 - pl2) (by omega)).2 σ2 cm2 wt2 wn2 pl2 rfl (by omega) hz2
        · refine hv_go C mV_hI [(84, 19), (84, 21), (84, 22), (84, 23), (84, 24), (84, 25), (97, 999), (98, 999)] [kR 0 32] (6, 125) [] [(84, [some (.inr 86, none)], [(.inr 86, ev_nt)], [], [])] 80 ⟨rfl, rfl⟩ (by decide +kernel) ⟨heR l 0 32 (by decide) hx, trivial⟩ ⟨?_, trivial⟩
          refine hs_callV C (A := []) (S := []) (j := 84) (i := 293) (mi := 158) (n := 0) (ci := 9) (E := fun _ => True) (rC l hz) (fun w h => ⟨h, trivial⟩) (fun _ _ _ h => h) (by decide +kernel) rfl rfl rfl (by decide) rfl (by decide) rfl rfl rfl (by decide) (by decide) (by decide) (by decide +kernel) (fun i u x hu hq => ?_)
          match i, hu with
          | 0, hu =>
            cases hu
            have hx0 : x = 0 := by have h1 := hq.1; have h2 := hq.2; dsimp only at h1 h2; omega
            subst hx0
            refine ev_go_mono (I' := fun _ => True) (fun w h => trivial) ?_
            refine hv_go C tr_hI [(84, 19), (84, 21), (84, 22), (84, 23), (84, 24), (84, 25), (97, 999), (98, 999)] [] (6, 125) [] [(91, [none], [(.inl (0, 0), ev_nt)], [], [])] 80 ⟨rfl, rfl⟩ (by decide +kernel) trivial ⟨?_, trivial⟩
            exact hs_iret C (i := 0) (fun ls w x _ _ _ hI hx _ => Or.inl rfl) hret rfl rfl rfl (by decide) rfl rfl rfl (by decide +kernel)
          | 1, hu =>
            cases hu
            have hx0 : x = 1 := by have h1 := hq.1; have h2 := hq.2; dsimp only at h1 h2; omega
            subst hx0
            refine ev_go_mono (fun w h => h.1.resolve_left (by decide)) (ev_go_exP (fun v hv => ?_))
            obtain ⟨σ2, cm2, wt2, wn2, pl2⟩ := v
            obtain ⟨hz2, hp2⟩ := hv
            dsimp only at hz2 hp2
            refine ev_go_mono (I' := mV tp ln σ2 cm2 wt2 wn2 pl2) (fun w h => h) ?_
            refine ev_go_w (P := pl2 ≤ 240) (fun w hw h => mV_240 hw h) (fun hpl2 => ?_)
            refine hv_go C mV_hI [(84, 19), (84, 21), (84, 22), (84, 23), (84, 24), (84, 25), (97, 999), (98, 999)] [] (6, 125) [] [(92, [some (.inr 86, none)], [], [], [])] 80 ⟨rfl, rfl⟩ (by decide +kernel) trivial ⟨?_, trivial⟩
            exact (ih (240 - pl2) (by omega)).2 σ2 cm2 wt2 wn2 pl2 rfl (by omega) hz2
        · refine hv_go C mV_hI [(84, 19), (84, 21), (84, 22), (84, 23), (84, 24), (84, 25), (97, 999), (98, 999)] [kR 33 33] (6, 125) [] [(75, [some (.inr 86, none)], [(.inl (10, 10), ev_nt), (.inr 86, ev_nt)], [((2, 84, 19), (0, 239), none)], [])] 80 ⟨rfl, rfl⟩ (by decide +kernel) ⟨heR l 33 33 (by decide) hx, trivial⟩ ⟨?_, trivial⟩
          refine hs_callV C (A := [(.inl (10, 10), ev_nt)]) (S := []) (j := 84) (i := 263) (mi := 148) (n := 1) (ci := 9) (E := fun _ => True) (op_10 l (by omega)) (fun w h => ⟨h, trivial⟩) (fun _ _ _ h => h) (by decide +kernel) rfl rfl rfl (by decide) rfl (by decide) rfl rfl rfl (by decide) (by decide) (by decide) (by decide +kernel) (fun i u x hu hq => ?_)
          match i, hu with
          | 0, hu =>
            cases hu
            have hx0 : x = 0 := by have h1 := hq.1; have h2 := hq.2; dsimp only at h1 h2; omega
            subst hx0
            refine ev_go_mono (I' := fun _ => True) (fun w h => trivial) ?_
            refine hv_go C tr_hI [(84, 19), (84, 21), (84, 22), (84, 23), (84, 24), (84, 25), (97, 999), (98, 999)] [] (6, 125) [] [(82, [none], [(.inl (0, 0), ev_nt)], [], [])] 80 ⟨rfl, rfl⟩ (by decide +kernel) trivial ⟨?_, trivial⟩
            exact hs_iret C (i := 0) (fun ls w x _ _ _ hI hx _ => Or.inl rfl) hret rfl rfl rfl (by decide) rfl rfl rfl (by decide +kernel)
          | 1, hu =>
            cases hu
            have hx0 : x = 1 := by have h1 := hq.1; have h2 := hq.2; dsimp only at h1 h2; omega
            subst hx0
            refine ev_go_mono (I' := mV tp ln σ cm (uN wn 10485760 wt) (wn + 1) (pl + 1)) (fun w h => h.1.resolve_left (by decide)) ?_
            refine hv_go C mV_hI [(84, 19), (84, 21), (84, 22), (84, 23), (84, 24), (84, 25), (97, 999), (98, 999)] [] (6, 125) [] [(40, [some (.inr 86, none)], [], [], [])] 80 ⟨rfl, rfl⟩ (by decide +kernel) trivial ⟨?_, trivial⟩
            exact (ih (240 - (pl + 1)) (by omega)).1 σ cm _ _ _ rfl (by omega) (pZ_push hz ⟨by decide, Or.inr ⟨by decide, rfl⟩⟩ (fun hb => Or.inl hb))
        · refine hv_go C mV_hI [(84, 19), (84, 21), (84, 22), (84, 23), (84, 24), (84, 25), (97, 999), (98, 999)] [kR 34 39] (6, 125) [] [(84, [some (.inr 86, none)], [(.inr 86, ev_nt)], [], [])] 80 ⟨rfl, rfl⟩ (by decide +kernel) ⟨heR l 34 39 (by decide) hx, trivial⟩ ⟨?_, trivial⟩
          refine hs_callV C (A := []) (S := []) (j := 84) (i := 293) (mi := 158) (n := 0) (ci := 9) (E := fun _ => True) (rC l hz) (fun w h => ⟨h, trivial⟩) (fun _ _ _ h => h) (by decide +kernel) rfl rfl rfl (by decide) rfl (by decide) rfl rfl rfl (by decide) (by decide) (by decide) (by decide +kernel) (fun i u x hu hq => ?_)
          match i, hu with
          | 0, hu =>
            cases hu
            have hx0 : x = 0 := by have h1 := hq.1; have h2 := hq.2; dsimp only at h1 h2; omega
            subst hx0
            refine ev_go_mono (I' := fun _ => True) (fun w h => trivial) ?_
            refine hv_go C tr_hI [(84, 19), (84, 21), (84, 22), (84, 23), (84, 24), (84, 25), (97, 999), (98, 999)] [] (6, 125) [] [(91, [none], [(.inl (0, 0), ev_nt)], [], [])] 80 ⟨rfl, rfl⟩ (by decide +kernel) trivial ⟨?_, trivial⟩
            exact hs_iret C (i := 0) (fun ls w x _ _ _ hI hx _ => Or.inl rfl) hret rfl rfl rfl (by decide) rfl rfl rfl (by decide +kernel)
          | 1, hu =>
            cases hu
            have hx0 : x = 1 := by have h1 := hq.1; have h2 := hq.2; dsimp only at h1 h2; omega
            subst hx0
            refine ev_go_mono (fun w h => h.1.resolve_left (by decide)) (ev_go_exP (fun v hv => ?_))
            obtain ⟨σ2, cm2, wt2, wn2, pl2⟩ := v
            obtain ⟨hz2, hp2⟩ := hv
            dsimp only at hz2 hp2
            refine ev_go_mono (I' := mV tp ln σ2 cm2 wt2 wn2 pl2) (fun w h => h) ?_
            refine ev_go_w (P := pl2 ≤ 240) (fun w hw h => mV_240 hw h) (fun hpl2 => ?_)
            refine hv_go C mV_hI [(84, 19), (84, 21), (84, 22), (84, 23), (84, 24), (84, 25), (97, 999), (98, 999)] [] (6, 125) [] [(92, [some (.inr 86, none)], [], [], [])] 80 ⟨rfl, rfl⟩ (by decide +kernel) trivial ⟨?_, trivial⟩
            exact (ih (240 - pl2) (by omega)).2 σ2 cm2 wt2 wn2 pl2 rfl (by omega) hz2
        · refine hv_go C mV_hI [(84, 19), (84, 21), (84, 22), (84, 23), (84, 24), (84, 25), (97, 999), (98, 999)] [kR 40 40] (6, 125) [] [(75, [some (.inr 86, none)], [(.inl (13, 13), ev_nt), (.inr 86, ev_nt)], [((2, 84, 19), (0, 239), none)], [])] 80 ⟨rfl, rfl⟩ (by decide +kernel) ⟨heR l 40 40 (by decide) hx, trivial⟩ ⟨?_, trivial⟩
          refine hs_callV C (A := [(.inl (13, 13), ev_nt)]) (S := []) (j := 84) (i := 263) (mi := 148) (n := 1) (ci := 9) (E := fun _ => True) (op_13 l (by omega)) (fun w h => ⟨h, trivial⟩) (fun _ _ _ h => h) (by decide +kernel) rfl rfl rfl (by decide) rfl (by decide) rfl rfl rfl (by decide) (by decide) (by decide) (by decide +kernel) (fun i u x hu hq => ?_)
          match i, hu with
          | 0, hu =>
            cases hu
            have hx0 : x = 0 := by have h1 := hq.1; have h2 := hq.2; dsimp only at h1 h2; omega
            subst hx0
            refine ev_go_mono (I' := fun _ => True) (fun w h => trivial) ?_
            refine hv_go C tr_hI [(84, 19), (84, 21), (84, 22), (84, 23), (84, 24), (84, 25), (97, 999), (98, 999)] [] (6, 125) [] [(82, [none], [(.inl (0, 0), ev_nt)], [], [])] 80 ⟨rfl, rfl⟩ (by decide +kernel) trivial ⟨?_, trivial⟩
            exact hs_iret C (i := 0) (fun ls w x _ _ _ hI hx _ => Or.inl rfl) hret rfl rfl rfl (by decide) rfl rfl rfl (by decide +kernel)
          | 1, hu =>
            cases hu
            have hx0 : x = 1 := by have h1 := hq.1; have h2 := hq.2; dsimp only at h1 h2; omega
            subst hx0
            refine ev_go_mono (I' := mV tp ln σ cm (uN wn 13631488 wt) (wn + 1) (pl + 1)) (fun w h => h.1.resolve_left (by decide)) ?_
            refine hv_go C mV_hI [(84, 19), (84, 21), (84, 22), (84, 23), (84, 24), (84, 25), (97, 999), (98, 999)] [] (6, 125) [] [(40, [some (.inr 86, none)], [], [], [])] 80 ⟨rfl, rfl⟩ (by decide +kernel) trivial ⟨?_, trivial⟩
            exact (ih (240 - (pl + 1)) (by omega)).1 σ cm _ _ _ rfl (by omega) (pZ_push hz ⟨by decide, Or.inr ⟨by decide, rfl⟩⟩ (fun hb => Or.inl hb))
        · refine hv_go C mV_hI [(84, 19), (84, 21), (84, 22), (84, 23), (84, 24), (84, 25), (97, 999), (98, 999)] [kR 41 255] (6, 125) [] [(84, [some (.inr 86, none)], [(.inr 86, ev_nt)], [], [])] 80 ⟨rfl, rfl⟩ (by decide +kernel) ⟨heR l 41 255 (by decide) hx, trivial⟩ ⟨?_, trivial⟩
          refine hs_callV C (A := []) (S := []) (j := 84) (i := 293) (mi := 158) (n := 0) (ci := 9) (E := fun _ => True) (rC l hz) (fun w h => ⟨h, trivial⟩) (fun _ _ _ h => h) (by decide +kernel) rfl rfl rfl (by decide) rfl (by decide) rfl rfl rfl (by decide) (by decide) (by decide) (by decide +kernel) (fun i u x hu hq => ?_)
          match i, hu with
          | 0, hu =>
            cases hu
            have hx0 : x = 0 := by have h1 := hq.1; have h2 := hq.2; dsimp only at h1 h2; omega
            subst hx0
            refine ev_go_mono (I' := fun _ => True) (fun w h => trivial) ?_
            refine hv_go C tr_hI [(84, 19), (84, 21), (84, 22), (84, 23), (84, 24), (84, 25), (97, 999), (98, 999)] [] (6, 125) [] [(91, [none], [(.inl (0, 0), ev_nt)], [], [])] 80 ⟨rfl, rfl⟩ (by decide +kernel) trivial ⟨?_, trivial⟩
            exact hs_iret C (i := 0) (fun ls w x _ _ _ hI hx _ => Or.inl rfl) hret rfl rfl rfl (by decide) rfl rfl rfl (by decide +kernel)
          | 1, hu =>
            cases hu
            have hx0 : x = 1 := by have h1 := hq.1; have h2 := hq.2; dsimp only at h1 h2; omega
            subst hx0
            refine ev_go_mono (fun w h => h.1.resolve_left (by decide)) (ev_go_exP (fun v hv => ?_))
            obtain ⟨σ2, cm2, wt2, wn2, pl2⟩ := v
            obtain ⟨hz2, hp2⟩ := hv
            dsimp only at hz2 hp2
            refine ev_go_mono (I' := mV tp ln σ2 cm2 wt2 wn2 pl2) (fun w h => h) ?_
            refine ev_go_w (P := pl2 ≤ 240) (fun w hw h => mV_240 hw h) (fun hpl2 => ?_)
            refine hv_go C mV_hI [(84, 19), (84, 21), (84, 22), (84, 23), (84, 24), (84, 25), (97, 999), (98, 999)] [] (6, 125) [] [(92, [some (.inr 86, none)], [], [], [])] 80 ⟨rfl, rfl⟩ (by decide +kernel) trivial ⟨?_, trivial⟩
            exact (ih (240 - pl2) (by omega)).2 σ2 cm2 wt2 wn2 pl2 rfl (by omega) hz2
      · intro σ cm wt wn pl hd hp0 hz
        have hb1 : wn ≤ pl := hz.2.2.1
        have hb2 : (cm : Int) ≤ pl := by
          have := hz.2.2.2.1
          have := cnt_nn (q := qN) (wt := wt) wn
          omega
        refine ev_go_w (P := pl ≤ 240) (fun w hw h => mV_240 hw h) (fun hpl => ?_)
        have hrr := hr_rng tp ln pl
        have hx : hr tp ln pl = -1 ∨ (0 ≤ hr tp ln pl ∧ hr tp ln pl ≤ 37) ∨ (38 ≤ hr tp ln pl ∧ hr tp ln pl ≤ 38) ∨ (39 ≤ hr tp ln pl ∧ hr tp ln pl ≤ 40) ∨ (41 ≤ hr tp ln pl ∧ hr tp ln pl ≤ 41) ∨ (42 ≤ hr tp ln pl ∧ hr tp ln pl ≤ 123) ∨ (124 ≤ hr tp ln pl ∧ hr tp ln pl ≤ 124) ∨ (125 ≤ hr tp ln pl ∧ hr tp ln pl ≤ 255) := by omega
        rcases hx with hx | hx | hx | hx | hx | hx | hx | hx
        · refine hv_go C mV_hI [(84, 19), (84, 21), (84, 22), (84, 23), (84, 24), (84, 25), (97, 999), (98, 999)] [kRn, kq_185] (6, 125) [] [(179, [none], [(.inl (0, 0), ev_nt)], [], [])] 80 ⟨rfl, rfl⟩ (by decide +kernel) ⟨heN l hx, ek_upS mV_hI (fun _ _ => trivial) rfl (qk_185 l), trivial⟩ ⟨?_, trivial⟩
          exact hs_iret C (i := 0) (fun ls w x _ _ _ hI hx _ => Or.inl rfl) hret rfl rfl rfl (by decide) rfl rfl rfl (by decide +kernel)
        · refine hv_go C mV_hI [(84, 19), (84, 21), (84, 22), (84, 23), (84, 24), (84, 25), (97, 999), (98, 999)] [kR 0 37, kq_185] (6, 125) [] [(179, [none], [(.inl (0, 0), ev_nt)], [], [])] 80 ⟨rfl, rfl⟩ (by decide +kernel) ⟨heR l 0 37 (by decide) hx, ek_upS mV_hI (fun _ _ => trivial) rfl (qk_185 l), trivial⟩ ⟨?_, trivial⟩
          exact hs_iret C (i := 0) (fun ls w x _ _ _ hI hx _ => Or.inl rfl) hret rfl rfl rfl (by decide) rfl rfl rfl (by decide +kernel)
        · refine hv_go C mV_hI [(84, 19), (84, 21), (84, 22), (84, 23), (84, 24), (84, 25), (97, 999), (98, 999)] [kR 38 38] (6, 125) [] [(195, [some (.inr 86, none)], [(.inl (0, 0), ev_nt), (.inr 86, ev_nt)], [((2, 84, 19), (0, 239), none)], [])] 80 ⟨rfl, rfl⟩ (by decide +kernel) ⟨heR l 38 38 (by decide) hx, trivial⟩ ⟨?_, trivial⟩
          refine hs_callV C (A := [(.inl (0, 0), ev_nt)]) (S := []) (j := 84) (i := 296) (mi := 160) (n := 1) (ci := 9) (E := fun _ => True) (la_0 l hz) (fun w h => ⟨h, trivial⟩) (fun _ _ _ h => h) (by decide +kernel) rfl rfl rfl (by decide) rfl (by decide) rfl rfl rfl (by decide) (by decide) (by decide) (by decide +kernel) (fun i u x hu hq => ?_)
          match i, hu with
          | 0, hu =>
            cases hu
            have hx0 : x = 0 := hq
            subst hx0
            refine ev_go_mono (fun w h => h.1) (ev_go_exP (fun v hv => ?_))
            obtain ⟨σ1, wn1⟩ := v
            have hz1 : pZ g sg 1 0 True False σ1 cm wt wn1 pl := hv
            refine ev_go_mono (I' := mV tp ln σ1 cm wt wn1 pl) (fun w h => h) ?_
            have hb3 : wn1 ≤ pl := hz1.2.2.1
            refine hv_go C mV_hI [(84, 19), (84, 21), (84, 22), (84, 23), (84, 24), (84, 25), (97, 999), (98, 999)] [kR 38 38] (6, 125) [] [(215, [some (.inr 86, none)], [(.inl (11, 11), ev_nt), (.inr 86, ev_nt)], [((2, 84, 19), (0, 239), none)], [])] 80 ⟨rfl, rfl⟩ (by decide +kernel) ⟨heR l 38 38 (by decide) hx, trivial⟩ ⟨?_, trivial⟩
            refine hs_callV C (A := [(.inl (11, 11), ev_nt)]) (S := []) (j := 84) (i := 299) (mi := 161) (n := 1) (ci := 9) (E := fun _ => True) (jm_11 l (by omega) (by omega)) (fun w h => ⟨h, trivial⟩) (fun _ _ _ h => h) (by decide +kernel) rfl rfl rfl (by decide) rfl (by decide) rfl rfl rfl (by decide) (by decide) (by decide) (by decide +kernel) (fun i u x hu hq => ?_)
            match i, hu with
            | 0, hu =>
              cases hu
              have hx0 : x = 0 := hq
              subst hx0
              refine ev_go_mono (fun w h => h.1) ?_
              refine hv_go C mV_hI [(84, 19), (84, 21), (84, 22), (84, 23), (84, 24), (84, 25), (97, 999), (98, 999)] [] (6, 125) [] [(40, [some (.inr 86, none)], [], [], [])] 80 ⟨rfl, rfl⟩ (by decide +kernel) trivial ⟨?_, trivial⟩
              exact (ih (240 - (pl + 1)) (by omega)).1 _ _ _ _ _ rfl (by omega) (pZ_jmp hz1 (by decide) (by omega))
        · refine hv_go C mV_hI [(84, 19), (84, 21), (84, 22), (84, 23), (84, 24), (84, 25), (97, 999), (98, 999)] [kR 39 40, kq_185] (6, 125) [] [(179, [none], [(.inl (0, 0), ev_nt)], [], [])] 80 ⟨rfl, rfl⟩ (by decide +kernel) ⟨heR l 39 40 (by decide) hx, ek_upS mV_hI (fun _ _ => trivial) rfl (qk_185 l), trivial⟩ ⟨?_, trivial⟩
          exact hs_iret C (i := 0) (fun ls w x _ _ _ hI hx _ => Or.inl rfl) hret rfl rfl rfl (by decide) rfl rfl rfl (by decide +kernel)
        · refine hv_go C mV_hI [(84, 19), (84, 21), (84, 22), (84, 23), (84, 24), (84, 25), (97, 999), (98, 999)] [kR 41 41] (6, 125) [] [(103, [some (.inr 86, none)], [(.inl (1, 1), ev_nt), (.inr 86, ev_nt)], [((2, 84, 19), (0, 239), none)], [])] 80 ⟨rfl, rfl⟩ (by decide +kernel) ⟨heR l 41 41 (by decide) hx, trivial⟩ ⟨?_, trivial⟩
          refine hs_callV C (A := [(.inl (1, 1), ev_nt)]) (S := []) (j := 84) (i := 296) (mi := 160) (n := 1) (ci := 9) (E := fun _ => True) (la_1 l hz) (fun w h => ⟨h, trivial⟩) (fun _ _ _ h => h) (by decide +kernel) rfl rfl rfl (by decide) rfl (by decide) rfl rfl rfl (by decide) (by decide) (by decide) (by decide +kernel) (fun i u x hu hq => ?_)
          match i, hu with
          | 0, hu =>
            cases hu
            have hx0 : x = 0 := hq
            subst hx0
            refine ev_go_mono (fun w h => h.1) (ev_go_exP (fun v hv => ?_))
            obtain ⟨σ1, wn1⟩ := v
            obtain ⟨hz1, htop⟩ := hv
            dsimp only at hz1 htop
            refine ev_go_mono (I' := mV tp ln σ1 cm wt wn1 pl) (fun w h => h) ?_
            have hb3 : wn1 ≤ pl := hz1.2.2.1
            have hb4 : 1 ≤ wn1 := (hz1.2.2.2.2.1 trivial).1
            obtain ⟨n1, rfl⟩ : ∃ n1, wn1 = n1 + 1 := ⟨wn1 - 1, by omega⟩
            have hnj : ¬ jmp (wt n1) := by
              rcases htop with h8 | h8
              · omega
              · exact h8
            refine ev_go_fact 84 25 (1, 260) rfl rfl (fun w hw h => by rw [h.2.2.2.1]; exact ⟨by dsimp only; omega, by dsimp only; omega⟩) ?_
            refine hv_go C mV_hI [(84, 19), (84, 21), (84, 22), (84, 23), (84, 24), (84, 25), (97, 999), (98, 999)] [] (6, 125) [] [(113, [some (.inr 86, none)], [(.inl (0, 259), (2, 84, 25, -1)), (.inr 86, ev_nt)], [((2, 84, 19), (0, 239), none)], [])] 80 ⟨rfl, rfl⟩ (by decide +kernel) trivial ⟨?_, trivial⟩
            refine hs_put C (I' := mV tp ln σ1 cm wt n1 pl) (i := 253) (ci := 9) (f := 25) (j := 84) (b := (-2147483648, 2147483647)) ?_ (by decide +kernel) rfl (by decide) rfl rfl (by decide) (by decide) (by decide) (by decide) (by decide +kernel) ?_
            · intro ls w w' z hw hl hF hI hz tz hp hf
              exact mV_p25 hI hp (by rw [tag_f tz, hI.2.2.2.1]; omega)
            · refine hv_go C mV_hI [(84, 19), (84, 21), (84, 22), (84, 23), (84, 24), (84, 25), (97, 999), (98, 999)] [] (6, 125) [] [(133, [some (.inr 86, none)], [(.inl (1, 240), (2, 84, 19, 1)), (.inr 86, ev_nt)], [], [])] 80 ⟨rfl, rfl⟩ (by decide +kernel) trivial ⟨?_, trivial⟩
              refine hs_put C (I' := mV tp ln σ1 cm wt n1 (pl + 1)) (i := 222) (ci := 9) (f := 19) (j := 84) (b := (0, 240)) ?_ (by decide +kernel) rfl (by decide) rfl rfl (by decide) (by decide) (by decide) (by decide) (by decide +kernel) ?_
              · intro ls w w' z hw hl hF hI hz tz hp hf
                exact mV_p19 hI hp (by rw [tag_f tz, hI.2.2.2.2.1]; omega)
              · rcases Nat.eq_zero_or_pos n1 with e | e
                · subst e
                  refine ev_go_fact 84 25 (0, 0) rfl rfl (fun w hw h => by rw [h.2.2.2.1]; exact ⟨by dsimp only; omega, by dsimp only; omega⟩) ?_
                  refine hv_go C mV_hI [(84, 19), (84, 21), (84, 22), (84, 23), (84, 24), (84, 25), (97, 999), (98, 999)] [] (6, 125) [] [(144, [none], [(.inl (1, 1), ev_nt)], [], [])] 80 ⟨rfl, rfl⟩ (by decide +kernel) trivial ⟨?_, trivial⟩
                  have hz2 : pZ g sg 1 0 False False σ1 cm wt 0 pl := pZ_pop hz1 hnj (fun h => h.elim)
                  exact hs_iret C (i := 1) (fun ls w x _ _ _ hI hx _ => Or.inr ⟨(σ1, cm, wt, pl + 1), ⟨pZ_end (c := cm) hz2 (Or.inr rfl) (by show cm ≤ 240; omega), hz2.1, by show cm ≤ pl + 1; omega, by show pl0 ≤ pl + 1; omega⟩, hI⟩) hret rfl rfl rfl (by decide) rfl rfl rfl (by decide +kernel)
                · refine ev_go_fact 84 25 (1, 260) rfl rfl (fun w hw h => by rw [h.2.2.2.1]; exact ⟨by dsimp only; omega, by dsimp only; omega⟩) ?_
                  refine hv_go C mV_hI [(84, 19), (84, 21), (84, 22), (84, 23), (84, 24), (84, 25), (97, 999), (98, 999)] [] (6, 125) [] [(146, [some (.inr 86, none)], [(.inr 86, ev_nt)], [], [])] 80 ⟨rfl, rfl⟩ (by decide +kernel) trivial ⟨?_, trivial⟩
                  have hz2 : pZ g sg 1 0 True False σ1 cm wt n1 (pl + 1) := pZ_on (pZ_pop hz1 hnj (fun h => ⟨trivial, e⟩)) (by omega) (by omega)
                  refine hs_callV C (A := []) (S := []) (j := 84) (i := 290) (mi := 159) (n := 0) (ci := 9) (E := fun _ => True) (eP l hz2) (fun w h => ⟨h, trivial⟩) (fun _ _ _ h => h) (by decide +kernel) rfl rfl rfl (by decide) rfl (by decide) rfl rfl rfl (by decide) (by decide) (by decide) (by decide +kernel) (fun i u x hu hq => ?_)
                  match i, hu with
                  | 0, hu =>
                    cases hu
                    have hx0 : x = 0 := hq
                    subst hx0
                    refine ev_go_mono (fun w h => h.1) (ev_go_exP (fun v hv => ?_))
                    obtain ⟨σ3, cm3, wn3⟩ := v
                    refine ev_go_mono (I' := mV tp ln σ3 cm3 wt wn3 (pl + 1)) (fun w h => h) ?_
                    refine hv_go C mV_hI [(84, 19), (84, 21), (84, 22), (84, 23), (84, 24), (84, 25), (97, 999), (98, 999)] [] (6, 125) [] [(92, [some (.inr 86, none)], [], [], [])] 80 ⟨rfl, rfl⟩ (by decide +kernel) trivial ⟨?_, trivial⟩
                    exact (ih (240 - (pl + 1)) (by omega)).2 σ3 cm3 wt wn3 (pl + 1) rfl (by omega) hv
        · refine hv_go C mV_hI [(84, 19), (84, 21), (84, 22), (84, 23), (84, 24), (84, 25), (97, 999), (98, 999)] [kR 42 123, kq_185] (6, 125) [] [(179, [none], [(.inl (0, 0), ev_nt)], [], [])] 80 ⟨rfl, rfl⟩ (by decide +kernel) ⟨heR l 42 123 (by decide) hx, ek_upS mV_hI (fun _ _ => trivial) rfl (qk_185 l), trivial⟩ ⟨?_, trivial⟩
          exact hs_iret C (i := 0) (fun ls w x _ _ _ hI hx _ => Or.inl rfl) hret rfl rfl rfl (by decide) rfl rfl rfl (by decide +kernel)
        · refine hv_go C mV_hI [(84, 19), (84, 21), (84, 22), (84, 23), (84, 24), (84, 25), (97, 999), (98, 999)] [kR 124 124] (6, 125) [] [(195, [some (.inr 86, none)], [(.inl (1, 1), ev_nt), (.inr 86, ev_nt)], [((2, 84, 19), (0, 239), none)], [])] 80 ⟨rfl, rfl⟩ (by decide +kernel) ⟨heR l 124 124 (by decide) hx, trivial⟩ ⟨?_, trivial⟩
          refine hs_callV C (A := [(.inl (1, 1), ev_nt)]) (S := []) (j := 84) (i := 296) (mi := 160) (n := 1) (ci := 9) (E := fun _ => True) (la_1 l hz) (fun w h => ⟨h, trivial⟩) (fun _ _ _ h => h) (by decide +kernel) rfl rfl rfl (by decide) rfl (by decide) rfl rfl rfl (by decide) (by decide) (by decide) (by decide +kernel) (fun i u x hu hq => ?_)
          match i, hu with
          | 0, hu =>
            cases hu
            have hx0 : x = 0 := hq
            subst hx0
            refine ev_go_mono (fun w h => h.1) (ev_go_exP (fun v hv => ?_))
            obtain ⟨σ1, wn1⟩ := v
            have hz1 : pZ g sg 1 0 True False σ1 cm wt wn1 pl := hv.1
            refine ev_go_mono (I' := mV tp ln σ1 cm wt wn1 pl) (fun w h => h) ?_
            have hb3 : wn1 ≤ pl := hz1.2.2.1
            refine hv_go C mV_hI [(84, 19), (84, 21), (84, 22), (84, 23), (84, 24), (84, 25), (97, 999), (98, 999)] [kR 124 124] (6, 125) [] [(215, [some (.inr 86, none)], [(.inl (12, 12), ev_nt), (.inr 86, ev_nt)], [((2, 84, 19), (0, 239), none)], [])] 80 ⟨rfl, rfl⟩ (by decide +kernel) ⟨heR l 124 124 (by decide) hx, trivial⟩ ⟨?_, trivial⟩
            refine hs_callV C (A := [(.inl (12, 12), ev_nt)]) (S := []) (j := 84) (i := 299) (mi := 161) (n := 1) (ci := 9) (E := fun _ => True) (jm_12 l (by omega) (by omega)) (fun w h => ⟨h, trivial⟩) (fun _ _ _ h => h) (by decide +kernel) rfl rfl rfl (by decide) rfl (by decide) rfl rfl rfl (by decide) (by decide) (by decide) (by decide +kernel) (fun i u x hu hq => ?_)
            match i, hu with
            | 0, hu =>
              cases hu
              have hx0 : x = 0 := hq
              subst hx0
              refine ev_go_mono (fun w h => h.1) ?_
              refine hv_go C mV_hI [(84, 19), (84, 21), (84, 22), (84, 23), (84, 24), (84, 25), (97, 999), (98, 999)] [] (6, 125) [] [(40, [some (.inr 86, none)], [], [], [])] 80 ⟨rfl, rfl⟩ (by decide +kernel) trivial ⟨?_, trivial⟩
              exact (ih (240 - (pl + 1)) (by omega)).1 _ _ _ _ _ rfl (by omega) (pZ_jmp hz1 (by decide) (by omega))
        · refine hv_go C mV_hI [(84, 19), (84, 21), (84, 22), (84, 23), (84, 24), (84, 25), (97, 999), (98, 999)] [kR 125 255, kq_185] (6, 125) [] [(179, [none], [(.inl (0, 0), ev_nt)], [], [])] 80 ⟨rfl, rfl⟩ (by decide +kernel) ⟨heR l 125 255 (by decide) hx, ek_upS mV_hI (fun _ _ => trivial) rfl (qk_185 l), trivial⟩ ⟨?_, trivial⟩
          exact hs_iret C (i := 0) (fun ls w x _ _ _ hI hx _ => Or.inl rfl) hret rfl rfl rfl (by decide) rfl rfl rfl (by decide +kernel)
  refine ev_go_w (P := pl0 ≤ 240) (fun w hw h => mV_240 hw h) (fun hpl0 => ?_)
  have hrr := hr_rng tp ln pl0
  have hx : hr tp ln pl0 = -1 ∨ (0 ≤ hr tp ln pl0 ∧ hr tp ln pl0 ≤ 39) ∨ (40 ≤ hr tp ln pl0 ∧ hr tp ln pl0 ≤ 40) ∨ (41 ≤ hr tp ln pl0 ∧ hr tp ln pl0 ≤ 255) := by omega
  rcases hx with hx | hx | hx | hx
  · refine hv_go C mV_hI [(84, 19), (84, 21), (84, 22), (84, 23), (84, 24), (84, 25), (97, 999), (98, 999)] [kRn, kq_185] (6, 125) [] [(18, [none], [(.inl (0, 0), ev_nt)], [], [])] 80 ⟨rfl, rfl⟩ (by decide +kernel) ⟨heN l hx, ek_upS mV_hI (fun _ _ => trivial) rfl (qk_185 l), trivial⟩ ⟨?_, trivial⟩
    exact hs_iret C (i := 0) (fun ls w x _ _ _ hI hx _ => Or.inl rfl) hret rfl rfl rfl (by decide) rfl rfl rfl (by decide +kernel)
  · refine hv_go C mV_hI [(84, 19), (84, 21), (84, 22), (84, 23), (84, 24), (84, 25), (97, 999), (98, 999)] [kR 0 39, kq_185] (6, 125) [] [(18, [none], [(.inl (0, 0), ev_nt)], [], [])] 80 ⟨rfl, rfl⟩ (by decide +kernel) ⟨heR l 0 39 (by decide) hx, ek_upS mV_hI (fun _ _ => trivial) rfl (qk_185 l), trivial⟩ ⟨?_, trivial⟩
    exact hs_iret C (i := 0) (fun ls w x _ _ _ hI hx _ => Or.inl rfl) hret rfl rfl rfl (by decide) rfl rfl rfl (by decide +kernel)
  · refine hv_go C mV_hI [(84, 19), (84, 21), (84, 22), (84, 23), (84, 24), (84, 25), (97, 999), (98, 999)] [kR 40 40] (6, 125) [] [(26, [some (.inr 86, none)], [(.inl (0, 0), ev_nt), (.inr 86, ev_nt)], [((2, 84, 19), (0, 239), none)], [])] 80 ⟨rfl, rfl⟩ (by decide +kernel) ⟨heR l 40 40 (by decide) hx, trivial⟩ ⟨?_, trivial⟩
    refine hs_put C (I' := mV tp ln σ0 sg wt0 0 pl0) (i := 253) (ci := 9) (f := 25) (j := 84) (b := (-2147483648, 2147483647)) ?_ (by decide +kernel) rfl (by decide) rfl rfl (by decide) (by decide) (by decide) (by decide) (by decide +kernel) ?_
    · intro ls w w' z hw hl hF hI hz tz hp hf
      exact mV_p25 hI hp (by have h1 := hz.1; have h2 := hz.2; dsimp only at h1 h2; omega)
    · refine hv_go C mV_hI [(84, 19), (84, 21), (84, 22), (84, 23), (84, 24), (84, 25), (97, 999), (98, 999)] [] (6, 125) [] [(32, [some (.inr 86, none)], [(.inl (13, 13), ev_nt), (.inr 86, ev_nt)], [((2, 84, 19), (0, 239), none)], [])] 80 ⟨rfl, rfl⟩ (by decide +kernel) trivial ⟨?_, trivial⟩
      refine hs_callV C (A := [(.inl (13, 13), ev_nt)]) (S := []) (j := 84) (i := 263) (mi := 148) (n := 1) (ci := 9) (E := fun _ => True) (op_13 l (by decide)) (fun w h => ⟨h, trivial⟩) (fun _ _ _ h => h) (by decide +kernel) rfl rfl rfl (by decide) rfl (by decide) rfl rfl rfl (by decide) (by decide) (by decide) (by decide +kernel) (fun i u x hu hq => ?_)
      match i, hu with
      | 0, hu =>
        cases hu
        have hx0 : x = 0 := by have h1 := hq.1; have h2 := hq.2; dsimp only at h1 h2; omega
        subst hx0
        refine ev_go_mono (I' := fun _ => True) (fun w h => trivial) ?_
        refine hv_go C tr_hI [(84, 19), (84, 21), (84, 22), (84, 23), (84, 24), (84, 25), (97, 999), (98, 999)] [] (6, 125) [] [(39, [none], [(.inl (0, 0), ev_nt)], [], [])] 80 ⟨rfl, rfl⟩ (by decide +kernel) trivial ⟨?_, trivial⟩
        exact hs_iret C (i := 0) (fun ls w x _ _ _ hI hx _ => Or.inl rfl) hret rfl rfl rfl (by decide) rfl rfl rfl (by decide +kernel)
      | 1, hu =>
        cases hu
        have hx0 : x = 1 := by have h1 := hq.1; have h2 := hq.2; dsimp only at h1 h2; omega
        subst hx0
        refine ev_go_mono (I' := mV tp ln σ0 sg (uN 0 13631488 wt0) (0 + 1) (pl0 + 1)) (fun w h => h.1.resolve_left (by decide)) ?_
        refine hv_go C mV_hI [(84, 19), (84, 21), (84, 22), (84, 23), (84, 24), (84, 25), (97, 999), (98, 999)] [] (6, 125) [] [(40, [some (.inr 86, none)], [], [], [])] 80 ⟨rfl, rfl⟩ (by decide +kernel) trivial ⟨?_, trivial⟩
        exact (loop (240 - (pl0 + 1))).1 σ0 sg _ _ _ rfl (by omega) (pZ_push (pZ_N (pZ_new (wt := wt0) hg hc0) (fun h => h.elim)) ⟨by decide, Or.inr ⟨by decide, rfl⟩⟩ (fun _ => Or.inr ⟨rfl, by decide⟩))
  · refine hv_go C mV_hI [(84, 19), (84, 21), (84, 22), (84, 23), (84, 24), (84, 25), (97, 999), (98, 999)] [kR 41 255, kq_185] (6, 125) [] [(18, [none], [(.inl (0, 0), ev_nt)], [], [])] 80 ⟨rfl, rfl⟩ (by decide +kernel) ⟨heR l 41 255 (by decide) hx, ek_upS mV_hI (fun _ _ => trivial) rfl (qk_185 l), trivial⟩ ⟨?_, trivial⟩
    exact hs_iret C (i := 0) (fun ls w x _ _ _ hI hx _ => Or.inl rfl) hret rfl rfl rfl (by decide) rfl rfl rfl (by decide +kernel)
