def iN (c : Nat) (ws : va_W) : Prop := iG ws ∧ gI ws 84 27 = (c : Int)
theorem iN_hI {c : Nat} : ev_hI (iN c) sG := fun W1 w w' h1 h2 h => ⟨iG_hI W1 w w' h1 h2 h.1, (gI_fr h2 (fun h => h1 _ h (by simp [sG]))).trans h.2⟩
def dV (c : Nat) (f : Nat → Int) (a h b q : Nat) (ws : va_W) : Prop := iN c ws ∧ gA ws 103 = f ∧ gA ws 105 q = a ∧ gA ws 106 q = h ∧ gA ws 107 q = b
theorem dV_hI {c : Nat} {f : Nat → Int} {a h b q : Nat} : ev_hI (dV c f a h b q) sG := fun W1 w w' h1 h2 hd => ⟨iN_hI W1 w w' h1 h2 hd.1, (gA_fr h2 (fun h => h1 _ h (by simp [sG]))).trans hd.2.1, by rw [gA_fr h2 (fun h => h1 _ h (by simp [sG]))]; exact hd.2.2.1, by rw [gA_fr h2 (fun h => h1 _ h (by simp [sG]))]; exact hd.2.2.2.1, by rw [gA_fr h2 (fun h => h1 _ h (by simp [sG]))]; exact hd.2.2.2.2⟩
def kDl : ek := (202, [.inr 86, .inl (0, 19)], [], [(108, 999)], [(some (.inl (1, 20)), [])], 2, 49)
def kHb : ek := (208, [.inr 86], [], [(108, 999)], [(some (.inl (0, 0)), []), (some (.inl (1, 1)), [])], 2, 49)
theorem th_delayOf (l : Launch) : ek_ok l tQ iG kDl := by
  refine hk_ek (J := fun _ _ ws => iG ws) (I' := iG) ?_ (fun w h => h) (fun i x w w' _ _ h => h)
  refine hk_ok_of (o := 9) (r := (yX9_delayOf, prog_11_method_35_code, 4, some .int)) rfl rfl (by decide +kernel) (by decide) rfl (fun p e s m args below meth c D tys aK aV b0 ad w0 C hret => ?_)
  refine ev_go_monoF (I' := fun ws => ∃ c' : Nat, c' ≤ 16 ∧ iN c' ws) (fun ls w hw hl hF hI => ?_) (ev_go_exP (fun c' hc16 => ?_))
  · have f4 := (gI_rng (j := 84) (f := 27) hw rfl rfl).1
    dsimp only at f4
    exact ⟨(gI w 84 27).toNat, by omega, hI, by omega⟩
  have loop : ∀ (d k : Nat) (γ : Nat → Int), γ 0 = (k : Int) → 16 - k = d → k ≤ 16 → ev_go p l e (ek_rm kDl) s m args below meth c (MQ below (hk_qc D tys tQ (fun _ _ ws => iG ws) b0 ad w0 kDl true) args s 0 0 (fun q => b0 ≤ q)) D tys tQ (iN c') b0 4 ad w0 [(108, 999)] γ (2, [some (.inr 86, none), some (.inl (0, 19), none), some (.inl (0, 16), some (0, 0)), none], [], [], []) := by
    intro d
    induction d using Nat.strongRecOn with
    | _ d ih =>
      intro k γ hγ hd hk
      refine hv_go C iN_hI [(108, 999)] [] (2, 49) [] [(7, [some (.inr 86, none), some (.inl (0, 19), none), some (.inl (0, 16), some (0, 0)), none], [(.inl (0, 16), (2, 84, 27, 0)), (.inl (0, 16), (1, 2, 0, 0))], [], [])] 80 ⟨rfl, rfl⟩ (by decide +kernel) trivial ⟨?_, trivial⟩
      refine hs_icmp C (cd := .ge) (off := 82) (k : Int) (c' : Int) (fun ls w x y hw hl hF hI hx tx hy ty => ?_) (by decide) (by decide +kernel) (fun hc => ?_) (fun hc => ?_)
      · obtain ⟨u, g1, g2⟩ := tag_l tx
        have g3 := lo_mark (i := 2) (n := 0) (d := 0) hl rfl g1
        exact ⟨by omega, by rw [tag_f ty, hI.2]; omega⟩
      · refine hv_go C iN_hI [(108, 999)] [] (2, 49) [] [(104, [none, none, none, none], [(.inl (1, 2), ev_nt)], [], [])] 80 ⟨rfl, rfl⟩ (by decide +kernel) trivial ⟨?_, trivial⟩
        exact hs_iret C (i := 0) (fun ls w x _ _ _ hI hx _ => hI.1) hret rfl rfl rfl (by decide) rfl rfl rfl (by decide +kernel)
      · have hc : ¬ ((c' : Int) ≤ k) := hc
        refine ev_go_lset (i := 2) (n := 0) (d := 0) (q' := (0, 15)) rfl ⟨by dsimp only; omega, by dsimp only; omega⟩ ?_
        refine hv_go C iN_hI [(108, 999)] [] (2, 49) [] [(2, [some (.inr 86, none), some (.inl (0, 19), none), some (.inl (0, 16), some (0, 1)), none], [], [], []), (27, [some (.inr 86, none), some (.inl (0, 19), none), some (.inl (0, 15), some (0, 0)), none], [(.inl (0, 15), (1, 2, 0, 0)), (.inr 108, ev_nt), (.inr 86, ev_nt)], [], [])] 80 ⟨rfl, rfl⟩ (by decide +kernel) trivial ⟨?_, ?_, trivial⟩
        · refine ev_go_mono (I' := iN c') (fun w h => h) ?_
          refine ev_go_re (i := 2) (n := 0) (d := 1) (γ' := fun _ => (k : Int) + 1) rfl rfl (by rw [hγ]) ?_
          exact ih (16 - (k + 1)) (by omega) (k + 1) (fun _ => (k : Int) + 1) (by simp) rfl (by omega)
        · refine ev_go_mono (I' := fun ws => ∃ v : (Nat → Int) × Nat × Nat × Nat, (mSeg v.1 v.2.1 v.2.2.1 ∧ mSeg v.1 v.2.2.1 v.2.2.2) ∧ dV c' v.1 v.2.1 v.2.2.1 v.2.2.2 k ws) (fun w hw => ?_) (ev_go_exP (fun v hv => ?_))
          · obtain ⟨a, h, b, r1, r2, r3, r4, r5⟩ := hw.1.2.2 k (by rw [hw.2]; omega)
            exact ⟨(gA w 103, a, h, b), ⟨r4, r5⟩, hw, rfl, r1, r2, r3⟩
          obtain ⟨f, a, h, b⟩ := v
          obtain ⟨sg1, sg2⟩ := hv
          dsimp only at sg1 sg2
          refine ev_go_mono (I' := dV c' f a h b k) (fun w h => h) ?_
          refine hs_ald C (I' := dV c' f a h b k) (b := ((h : Int), (h : Int))) (t := (0, 16, 0, 260)) ?_ rfl rfl ?_ (by decide +kernel) ?_
          · intro ls w i x hw hl hF hI hi ti i0 i1 hx hb
            obtain ⟨u, g1, g2⟩ := tag_l ti
            have g3 := lo_mark (i := 2) (n := 0) (d := 0) hl rfl g1
            rw [hγ] at g3
            have e2 : i.toInt.toNat = k := by omega
            rw [e2, hI.2.2.2.1] at hx
            exact ⟨hI, by show (h : Int) ≤ x.toInt; omega, by show x.toInt ≤ (h : Int); omega⟩
          · intro ls w i hw hl hF hI hi ti
            have a1 : (0 : Int) ≤ i.toInt := hi.1
            have a2 : i.toInt ≤ 15 := hi.2
            exact ⟨by omega, by show i.toInt < 16; omega⟩
          · refine ev_op_ok C dV_hI (K := []) (rm := (2, 49)) (fun _ h => absurd h List.not_mem_nil) ⟨rfl, rfl⟩ (op := .aload_n 0) (len := 1) (by decide +kernel) rfl (fun st hst => ?_)
            rw [List.mem_singleton.mp hst]
            refine ev_op_ok C dV_hI (K := []) (rm := (2, 49)) (fun _ h => absurd h List.not_mem_nil) ⟨rfl, rfl⟩ (op := .getfield 77) (len := 3) (by decide +kernel) rfl (fun st hst => ?_)
            rw [List.mem_singleton.mp hst]
            refine ev_op_ok C dV_hI (K := []) (rm := (2, 49)) (fun _ h => absurd h List.not_mem_nil) ⟨rfl, rfl⟩ (op := .iload_n 2) (len := 1) (by decide +kernel) rfl (fun st hst => ?_)
            rw [List.mem_singleton.mp hst]
            refine hs_ald C (I' := dV c' f a h b k) (b := ((b : Int), (b : Int))) (t := (0, 16, 0, 260)) ?_ rfl rfl ?_ (by decide +kernel) ?_
            · intro ls w i x hw hl hF hI hi ti i0 i1 hx hb
              obtain ⟨u, g1, g2⟩ := tag_l ti
              have g3 := lo_mark (i := 2) (n := 0) (d := 0) hl rfl g1
              rw [hγ] at g3
              have e2 : i.toInt.toNat = k := by omega
              rw [e2, hI.2.2.2.2] at hx
              exact ⟨hI, by show (b : Int) ≤ x.toInt; omega, by show x.toInt ≤ (b : Int); omega⟩
            · intro ls w i hw hl hF hI hi ti
              have a1 : (0 : Int) ≤ i.toInt := hi.1
              have a2 : i.toInt ≤ 15 := hi.2
              exact ⟨by omega, by show i.toInt < 16; omega⟩
            · refine hs_callV C (κ := kRk (h : Nat) (b : Nat)) (A := [(.inl ((b : Int), (b : Int)), ev_nt), (.inl ((h : Int), (h : Int)), ev_nt)]) (S := []) (j := 84) (i := 324) (mi := 203) (n := 2) (ci := 9) (E := dV c' f a h b k) (rk l sg2) (fun w h => ⟨h.2.1, h⟩) (fun w w' hf h => dV_hI [(108, 999)] w w' (by decide) hf h) (by decide +kernel) rfl rfl rfl (by simp [en_all2, en_le, kRk]) rfl (fun q hq => (by decide : ∀ q ∈ [((108 : Nat), (999 : Nat))], q ∈ [((108 : Nat), (999 : Nat))]) q hq) rfl rfl rfl (Nat.le_of_ble_eq_true rfl) (Nat.le_of_ble_eq_true rfl) (by decide) (by decide +kernel) (fun i u x hu hq => ?_)
              match i, hu with
              | 0, hu =>
                cases hu
                refine ev_go_mono (I' := dV c' f a h b k) (fun w h => h.2) ?_
                refine ev_go_top (q' := (-2147483648, 2147483647)) (t' := ev_nt) (fun ls w y _ hl _ hI hy ty => ⟨⟨by have := hy.1; have := hq.1; dsimp only at *; omega, by have := hy.2; have := hq.2; dsimp only at *; omega⟩, ev_tag0⟩) ?_
                refine hv_go C dV_hI [(108, 999)] [] (2, 49) [] [(2, [some (.inr 86, none), some (.inl (0, 19), none), some (.inl (0, 16), some (0, 1)), none], [], [], []), (50, [some (.inr 86, none), some (.inl (0, 19), none), some (.inl (0, 15), some (0, 0)), none], [(.inl (0, 15), (1, 2, 0, 0)), (.inr 107, ev_nt), (.inr 86, ev_nt)], [], [])] 80 (st := (37, [some (.inr 86, none), some (.inl (0, 19), none), some (.inl (0, 15), some (0, 0)), none], [(.inl ((-2147483648), 2147483647), ev_nt)], [], [])) ⟨rfl, rfl⟩ (by decide +kernel) trivial ⟨?_, ?_, trivial⟩
                · refine ev_go_mono (I' := iN c') (fun w h => h.1) ?_
                  refine ev_go_re (i := 2) (n := 0) (d := 1) (γ' := fun _ => (k : Int) + 1) rfl rfl (by rw [hγ]) ?_
                  exact ih (16 - (k + 1)) (by omega) (k + 1) (fun _ => (k : Int) + 1) (by simp) rfl (by omega)
                · refine hs_ald C (I' := dV c' f a h b k) (b := ((a : Int), (a : Int))) (t := (0, 16, 0, 260)) ?_ rfl rfl ?_ (by decide +kernel) ?_
                  · intro ls w i x hw hl hF hI hi ti i0 i1 hx hb
                    obtain ⟨u, g1, g2⟩ := tag_l ti
                    have g3 := lo_mark (i := 2) (n := 0) (d := 0) hl rfl g1
                    rw [hγ] at g3
                    have e2 : i.toInt.toNat = k := by omega
                    rw [e2, hI.2.2.1] at hx
                    exact ⟨hI, by show (a : Int) ≤ x.toInt; omega, by show x.toInt ≤ (a : Int); omega⟩
                  · intro ls w i hw hl hF hI hi ti
                    have a1 : (0 : Int) ≤ i.toInt := hi.1
                    have a2 : i.toInt ≤ 15 := hi.2
                    exact ⟨by omega, by show i.toInt < 16; omega⟩
                  · refine ev_op_ok C dV_hI (K := []) (rm := (2, 49)) (fun _ h => absurd h List.not_mem_nil) ⟨rfl, rfl⟩ (op := .aload_n 0) (len := 1) (by decide +kernel) rfl (fun st hst => ?_)
                    rw [List.mem_singleton.mp hst]
                    refine ev_op_ok C dV_hI (K := []) (rm := (2, 49)) (fun _ h => absurd h List.not_mem_nil) ⟨rfl, rfl⟩ (op := .getfield 74) (len := 3) (by decide +kernel) rfl (fun st hst => ?_)
                    rw [List.mem_singleton.mp hst]
                    refine ev_op_ok C dV_hI (K := []) (rm := (2, 49)) (fun _ h => absurd h List.not_mem_nil) ⟨rfl, rfl⟩ (op := .iload_n 2) (len := 1) (by decide +kernel) rfl (fun st hst => ?_)
                    rw [List.mem_singleton.mp hst]
                    refine hs_ald C (I' := dV c' f a h b k) (b := ((h : Int), (h : Int))) (t := (0, 16, 0, 260)) ?_ rfl rfl ?_ (by decide +kernel) ?_
                    · intro ls w i x hw hl hF hI hi ti i0 i1 hx hb
                      obtain ⟨u, g1, g2⟩ := tag_l ti
                      have g3 := lo_mark (i := 2) (n := 0) (d := 0) hl rfl g1
                      rw [hγ] at g3
                      have e2 : i.toInt.toNat = k := by omega
                      rw [e2, hI.2.2.2.1] at hx
                      exact ⟨hI, by show (h : Int) ≤ x.toInt; omega, by show x.toInt ≤ (h : Int); omega⟩
                    · intro ls w i hw hl hF hI hi ti
                      have a1 : (0 : Int) ≤ i.toInt := hi.1
                      have a2 : i.toInt ≤ 15 := hi.2
                      exact ⟨by omega, by show i.toInt < 16; omega⟩
                    · refine hs_callV C (κ := kRk (a : Nat) (h : Nat)) (A := [(.inl ((h : Int), (h : Int)), ev_nt), (.inl ((a : Int), (a : Int)), ev_nt)]) (S := []) (j := 84) (i := 324) (mi := 203) (n := 2) (ci := 9) (E := dV c' f a h b k) (rk l sg1) (fun w h => ⟨h.2.1, h⟩) (fun w w' hf h => dV_hI [(108, 999)] w w' (by decide) hf h) (by decide +kernel) rfl rfl rfl (by simp [en_all2, en_le, kRk]) rfl (fun q hq => (by decide : ∀ q ∈ [((108 : Nat), (999 : Nat))], q ∈ [((108 : Nat), (999 : Nat))]) q hq) rfl rfl rfl (Nat.le_of_ble_eq_true rfl) (Nat.le_of_ble_eq_true rfl) (by decide) (by decide +kernel) (fun i u x hu hq => ?_)
                      match i, hu with
                      | 0, hu =>
                        cases hu
                        refine ev_go_mono (I' := dV c' f a h b k) (fun w h => h.2) ?_
                        refine ev_go_top (q' := (-2147483648, 2147483647)) (t' := ev_nt) (fun ls w y _ hl _ hI hy ty => ⟨⟨by have := hy.1; have := hq.1; dsimp only at *; omega, by have := hy.2; have := hq.2; dsimp only at *; omega⟩, ev_tag0⟩) ?_
                        refine hv_go C dV_hI [(108, 999)] [] (2, 49) [] [(82, [none, none, none, none], [(.inl (1, 20), ev_nt)], [], [])] 80 (st := (60, [some (.inr 86, none), some (.inl (0, 19), none), some (.inl (0, 15), some (0, 0)), none], [(.inl ((-2147483648), 2147483647), ev_nt)], [], [])) ⟨rfl, rfl⟩ (by decide +kernel) trivial ⟨?_, trivial⟩
                        exact hs_iret C (i := 0) (fun ls w x _ _ _ hI hx _ => hI.1.1) hret rfl rfl rfl (by decide) rfl rfl rfl (by decide +kernel)
  refine hv_go C iN_hI [(108, 999)] [] (2, 49) [] [(2, [some (.inr 86, none), some (.inl (0, 19), none), some (.inl (0, 0), none), none], [], [], [])] 80 ⟨rfl, rfl⟩ (by decide +kernel) trivial ⟨?_, trivial⟩
  refine ev_go_gv 0 0 rfl ?_
  exact ev_go_mark (i := 2) (n := 0) (q' := (0, 16)) (v := 0) rfl (by decide) rfl (loop _ 0 _ rfl rfl (by omega))
theorem th_isHeldBack (l : Launch) : ek_ok l tQ iG kHb := by
  refine hk_ek (J := fun _ _ ws => iG ws) (I' := iG) ?_ (fun w h => h) (fun i x w w' _ _ h => h)
  refine hk_ok_of (o := 9) (r := (yX9_isHeldBack, prog_11_method_36_code, 2, some .boolean)) rfl rfl (by decide +kernel) (by decide) rfl (fun p e s m args below meth c D tys aK aV b0 ad w0 C hret => ?_)
  refine ev_go_monoF (I' := fun ws => ∃ c' : Nat, c' ≤ 16 ∧ iN c' ws) (fun ls w hw hl hF hI => ?_) (ev_go_exP (fun c' hc16 => ?_))
  · have f4 := (gI_rng (j := 84) (f := 27) hw rfl rfl).1
    dsimp only at f4
    exact ⟨(gI w 84 27).toNat, by omega, hI, by omega⟩
  have loop : ∀ (d k : Nat) (γ : Nat → Int), γ 0 = (k : Int) → 16 - k = d → k ≤ 16 → ev_go p l e (ek_rm kHb) s m args below meth c (MQ below (hk_qc D tys tQ (fun _ _ ws => iG ws) b0 ad w0 kHb true) args s 0 0 (fun q => b0 ≤ q)) D tys tQ (iN c') b0 2 ad w0 [(108, 999)] γ (2, [some (.inr 86, none), some (.inl (0, 16), some (0, 0))], [], [], []) := by
    intro d
    induction d using Nat.strongRecOn with
    | _ d ih =>
      intro k γ hγ hd hk
      refine hv_go C iN_hI [(108, 999)] [] (2, 49) [] [(7, [some (.inr 86, none), some (.inl (0, 16), some (0, 0))], [(.inl (0, 16), (2, 84, 27, 0)), (.inl (0, 16), (1, 1, 0, 0))], [], [])] 80 ⟨rfl, rfl⟩ (by decide +kernel) trivial ⟨?_, trivial⟩
      refine hs_icmp C (cd := .ge) (off := 42) (k : Int) (c' : Int) (fun ls w x y hw hl hF hI hx tx hy ty => ?_) (by decide) (by decide +kernel) (fun hc => ?_) (fun hc => ?_)
      · obtain ⟨u, g1, g2⟩ := tag_l tx
        have g3 := lo_mark (i := 1) (n := 0) (d := 0) hl rfl g1
        exact ⟨by omega, by rw [tag_f ty, hI.2]; omega⟩
      · refine hv_go C iN_hI [(108, 999)] [] (2, 49) [] [(50, [none, none], [(.inl (0, 0), ev_nt)], [], [])] 80 ⟨rfl, rfl⟩ (by decide +kernel) trivial ⟨?_, trivial⟩
        exact hs_iret C (i := 0) (fun ls w x _ _ _ hI hx _ => hI.1) hret rfl rfl rfl (by decide) rfl rfl rfl (by decide +kernel)
      · have hc : ¬ ((c' : Int) ≤ k) := hc
        refine ev_go_lset (i := 1) (n := 0) (d := 0) (q' := (0, 15)) rfl ⟨by dsimp only; omega, by dsimp only; omega⟩ ?_
        refine hv_go C iN_hI [(108, 999)] [] (2, 49) [] [(2, [some (.inr 86, none), some (.inl (0, 16), some (0, 1))], [], [], []), (27, [some (.inr 86, none), some (.inl (0, 15), some (0, 0))], [(.inl (0, 15), (1, 1, 0, 0)), (.inr 108, ev_nt), (.inr 86, ev_nt)], [], [])] 80 ⟨rfl, rfl⟩ (by decide +kernel) trivial ⟨?_, ?_, trivial⟩
        · refine ev_go_mono (I' := iN c') (fun w h => h) ?_
          refine ev_go_re (i := 1) (n := 0) (d := 1) (γ' := fun _ => (k : Int) + 1) rfl rfl (by rw [hγ]) ?_
          exact ih (16 - (k + 1)) (by omega) (k + 1) (fun _ => (k : Int) + 1) (by simp) rfl (by omega)
        · refine ev_go_mono (I' := fun ws => ∃ v : (Nat → Int) × Nat × Nat × Nat, (mSeg v.1 v.2.1 v.2.2.1 ∧ mSeg v.1 v.2.2.1 v.2.2.2) ∧ dV c' v.1 v.2.1 v.2.2.1 v.2.2.2 k ws) (fun w hw => ?_) (ev_go_exP (fun v hv => ?_))
          · obtain ⟨a, h, b, r1, r2, r3, r4, r5⟩ := hw.1.2.2 k (by rw [hw.2]; omega)
            exact ⟨(gA w 103, a, h, b), ⟨r4, r5⟩, hw, rfl, r1, r2, r3⟩
          obtain ⟨f, a, h, b⟩ := v
          obtain ⟨sg1, sg2⟩ := hv
          dsimp only at sg1 sg2
          refine ev_go_mono (I' := dV c' f a h b k) (fun w h => h) ?_
          refine hs_ald C (I' := dV c' f a h b k) (b := ((h : Int), (h : Int))) (t := (0, 16, 0, 260)) ?_ rfl rfl ?_ (by decide +kernel) ?_
          · intro ls w i x hw hl hF hI hi ti i0 i1 hx hb
            obtain ⟨u, g1, g2⟩ := tag_l ti
            have g3 := lo_mark (i := 1) (n := 0) (d := 0) hl rfl g1
            rw [hγ] at g3
            have e2 : i.toInt.toNat = k := by omega
            rw [e2, hI.2.2.2.1] at hx
            exact ⟨hI, by show (h : Int) ≤ x.toInt; omega, by show x.toInt ≤ (h : Int); omega⟩
          · intro ls w i hw hl hF hI hi ti
            have a1 : (0 : Int) ≤ i.toInt := hi.1
            have a2 : i.toInt ≤ 15 := hi.2
            exact ⟨by omega, by show i.toInt < 16; omega⟩
          · refine ev_op_ok C dV_hI (K := []) (rm := (2, 49)) (fun _ h => absurd h List.not_mem_nil) ⟨rfl, rfl⟩ (op := .aload_n 0) (len := 1) (by decide +kernel) rfl (fun st hst => ?_)
            rw [List.mem_singleton.mp hst]
            refine ev_op_ok C dV_hI (K := []) (rm := (2, 49)) (fun _ h => absurd h List.not_mem_nil) ⟨rfl, rfl⟩ (op := .getfield 77) (len := 3) (by decide +kernel) rfl (fun st hst => ?_)
            rw [List.mem_singleton.mp hst]
            refine ev_op_ok C dV_hI (K := []) (rm := (2, 49)) (fun _ h => absurd h List.not_mem_nil) ⟨rfl, rfl⟩ (op := .iload_n 1) (len := 1) (by decide +kernel) rfl (fun st hst => ?_)
            rw [List.mem_singleton.mp hst]
            refine hs_ald C (I' := dV c' f a h b k) (b := ((b : Int), (b : Int))) (t := (0, 16, 0, 260)) ?_ rfl rfl ?_ (by decide +kernel) ?_
            · intro ls w i x hw hl hF hI hi ti i0 i1 hx hb
              obtain ⟨u, g1, g2⟩ := tag_l ti
              have g3 := lo_mark (i := 1) (n := 0) (d := 0) hl rfl g1
              rw [hγ] at g3
              have e2 : i.toInt.toNat = k := by omega
              rw [e2, hI.2.2.2.2] at hx
              exact ⟨hI, by show (b : Int) ≤ x.toInt; omega, by show x.toInt ≤ (b : Int); omega⟩
            · intro ls w i hw hl hF hI hi ti
              have a1 : (0 : Int) ≤ i.toInt := hi.1
              have a2 : i.toInt ≤ 15 := hi.2
              exact ⟨by omega, by show i.toInt < 16; omega⟩
            · refine hs_callV C (κ := kRk (h : Nat) (b : Nat)) (A := [(.inl ((b : Int), (b : Int)), ev_nt), (.inl ((h : Int), (h : Int)), ev_nt)]) (S := []) (j := 84) (i := 324) (mi := 203) (n := 2) (ci := 9) (E := dV c' f a h b k) (rk l sg2) (fun w h => ⟨h.2.1, h⟩) (fun w w' hf h => dV_hI [(108, 999)] w w' (by decide) hf h) (by decide +kernel) rfl rfl rfl (by simp [en_all2, en_le, kRk]) rfl (fun q hq => (by decide : ∀ q ∈ [((108 : Nat), (999 : Nat))], q ∈ [((108 : Nat), (999 : Nat))]) q hq) rfl rfl rfl (Nat.le_of_ble_eq_true rfl) (Nat.le_of_ble_eq_true rfl) (by decide) (by decide +kernel) (fun i u x hu hq => ?_)
              match i, hu with
              | 0, hu =>
                cases hu
                refine ev_go_mono (I' := dV c' f a h b k) (fun w h => h.2) ?_
                refine ev_go_top (q' := (-2147483648, 2147483647)) (t' := ev_nt) (fun ls w y _ hl _ hI hy ty => ⟨⟨by have := hy.1; have := hq.1; dsimp only at *; omega, by have := hy.2; have := hq.2; dsimp only at *; omega⟩, ev_tag0⟩) ?_
                refine hv_go C dV_hI [(108, 999)] [] (2, 49) [] [(42, [none, none], [(.inl (1, 1), ev_nt)], [], []), (2, [some (.inr 86, none), some (.inl (0, 16), some (0, 1))], [], [], [])] 80 (st := (37, [some (.inr 86, none), some (.inl (0, 15), some (0, 0))], [(.inl ((-2147483648), 2147483647), ev_nt)], [], [])) ⟨rfl, rfl⟩ (by decide +kernel) trivial ⟨?_, ?_, trivial⟩
                · exact hs_iret C (i := 1) (fun ls w x _ _ _ hI hx _ => hI.1.1) hret rfl rfl rfl (by decide) rfl rfl rfl (by decide +kernel)
                · refine ev_go_mono (I' := iN c') (fun w h => h.1) ?_
                  refine ev_go_re (i := 1) (n := 0) (d := 1) (γ' := fun _ => (k : Int) + 1) rfl rfl (by rw [hγ]) ?_
                  exact ih (16 - (k + 1)) (by omega) (k + 1) (fun _ => (k : Int) + 1) (by simp) rfl (by omega)
  refine hv_go C iN_hI [(108, 999)] [] (2, 49) [] [(2, [some (.inr 86, none), some (.inl (0, 0), none)], [], [], [])] 80 ⟨rfl, rfl⟩ (by decide +kernel) trivial ⟨?_, trivial⟩
  refine ev_go_gv 0 0 rfl ?_
  exact ev_go_mark (i := 1) (n := 0) (q' := (0, 16)) (v := 0) rfl (by decide) rfl (loop _ 0 _ rfl rfl (by omega))
