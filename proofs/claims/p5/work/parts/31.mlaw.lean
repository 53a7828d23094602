def kLw : ek := (141, [.inr 86, .inl (1, 240)], [], [(84, 18), (84, 19), (84, 20), (84, 21), (84, 22), (84, 23), (84, 24), (84, 25), (84, 26), (84, 27), (97, 999), (98, 999), (99, 999), (100, 999), (101, 999), (102, 999), (103, 999), (104, 999), (105, 999), (106, 999), (107, 999)], [(some (.inl (-2147483648, 2147483647)), [])], 8, 166)
def kLwn : ek := (141, [.inr 86, .inl (-2147483648, 0)], [], [], [(some (.inl (-1, -1)), [])], 1, 30)
def kLwp : ek := (141, [.inr 86, .inl (241, 2147483647)], [], [], [(some (.inl (-1, -1)), [])], 1, 30)
theorem lw_n (l : Launch) : ek_ok l tQ iG kLwn := ek_good_ok (sp := sG) (K := [kq_180]) (SP := []) (HS := []) (N := 0) (fuel := 40) iG_hI (List.forall_mem_cons.mpr ⟨ek_upS iG_hI (fun _ _ => trivial) rfl (qk_180 l), fun _ h => absurd h List.not_mem_nil⟩) (by decide +kernel)
theorem lw_p (l : Launch) : ek_ok l tQ iG kLwp := ek_good_ok (sp := sG) (K := [kq_239]) (SP := []) (HS := []) (N := 0) (fuel := 40) iG_hI (List.forall_mem_cons.mpr ⟨ek_upS iG_hI (fun _ _ => trivial) rfl (qk_239 l), fun _ h => absurd h List.not_mem_nil⟩) (by decide +kernel)
def sL : List (Nat × Nat) := sB ++ sG
def cG (ws : va_W) : Prop := lC (gA ws 20) (gA ws 21) ∧ lC (gA ws 61) (gA ws 62)
theorem cG_hI : ev_hI cG sG := by
  intro W1 w w' h1 h2 h
  have a1 := gA_fr (j := 20) h2 (fun h => h1 _ h (by simp [sG]))
  have a2 := gA_fr (j := 21) h2 (fun h => h1 _ h (by simp [sG]))
  have a3 := gA_fr (j := 61) h2 (fun h => h1 _ h (by simp [sG]))
  have a4 := gA_fr (j := 62) h2 (fun h => h1 _ h (by simp [sG]))
  unfold cG at *
  rw [a1, a2, a3, a4]
  exact h
def bG (tp : Nat → Int) (ln : Nat) (σ : Nat → Int) (c p : Nat) (SF SH ST : Nat → Int) (n : Nat) (ws : va_W) : Prop := bV tp ln σ c p SF SH ST n ws ∧ iG ws
theorem bG_hI {tp : Nat → Int} {ln : Nat} {σ : Nat → Int} {c p : Nat} {SF SH ST : Nat → Int} {n : Nat} : ev_hI (bG tp ln σ c p SF SH ST n) sL := ev_hI_and (ev_hI_mono bV_hI (fun _ h => List.mem_append_left _ h)) (ev_hI_mono iG_hI (fun _ h => List.mem_append_right _ h))
/-- what has been copied: codes up to k, rows up to j1, j2, j3 -/
def wV (tp : Nat → Int) (ln : Nat) (σ : Nat → Int) (c p : Nat) (SF SH ST : Nat → Int) (n k j1 j2 j3 : Nat) (ws : va_W) : Prop := bV tp ln σ c p SF SH ST n ws ∧ cG ws ∧ gI ws 84 27 = (n : Int) ∧ (∀ i, i < k → gA ws 103 i = σ i) ∧ (∀ q, q < j1 → gA ws 105 q = SF q) ∧ (∀ q, q < j2 → gA ws 106 q = SH q) ∧ ∀ q, q < j3 → gA ws 107 q = ST q
theorem wV_hI {tp : Nat → Int} {ln : Nat} {σ : Nat → Int} {c p : Nat} {SF SH ST : Nat → Int} {n k j1 j2 j3 : Nat} : ev_hI (wV tp ln σ c p SF SH ST n k j1 j2 j3) sL := by
  intro W1 w w' h1 h2 h
  obtain ⟨h3, h4, h5, h6, h7, h8, h9⟩ := h
  have a5 := gA_fr (j := 103) h2 (fun h => h1 _ h (by simp [sL, sG]))
  have a6 := gA_fr (j := 105) h2 (fun h => h1 _ h (by simp [sL, sG]))
  have a7 := gA_fr (j := 106) h2 (fun h => h1 _ h (by simp [sL, sG]))
  have a8 := gA_fr (j := 107) h2 (fun h => h1 _ h (by simp [sL, sG]))
  have a9 := gI_fr (j := 84) (f := 27) h2 (fun h => h1 _ h (by simp [sL, sG]))
  refine ⟨bV_hI W1 w w' (fun q hq hm => h1 q hq (List.mem_append_left _ hm)) h2 h3, cG_hI W1 w w' (fun q hq hm => h1 q hq (List.mem_append_right _ hm)) h2 h4, by rw [a9]; exact h5, by rw [a5]; exact h6, by rw [a6]; exact h7, by rw [a7]; exact h8, by rw [a8]; exact h9⟩
theorem bV_sO {tp : Nat → Int} {ln : Nat} {σ : Nat → Int} {c p : Nat} {SF SH ST : Nat → Int} {n j i : Nat} {x : Int} {ws ws' : va_W} (h : bV tp ln σ c p SF SH ST n ws) (hs : gS j i x ws ws') (hj : (j ≠ 97 ∧ j ≠ 96) ∧ j ≠ 100 ∧ j ≠ 101 ∧ j ≠ 102) : bV tp ln σ c p SF SH ST n ws' := by
  obtain ⟨h0, h1, h2, h3, h4⟩ := h
  exact ⟨mB_sO h0 hs hj.1, by rw [hs.2.1 100 (Ne.symm hj.2.1), h1], by rw [hs.2.1 101 (Ne.symm hj.2.2.1), h2], by rw [hs.2.1 102 (Ne.symm hj.2.2.2), h3], by rw [hs.2.2, h4]⟩
theorem cG_sO {j i : Nat} {x : Int} {ws ws' : va_W} (h : cG ws) (hs : gS j i x ws ws') (hj : j ≠ 20 ∧ j ≠ 21 ∧ j ≠ 61 ∧ j ≠ 62) : cG ws' := by
  unfold cG at *
  rw [hs.2.1 20 (Ne.symm hj.1), hs.2.1 21 (Ne.symm hj.2.1), hs.2.1 61 (Ne.symm hj.2.2.1), hs.2.1 62 (Ne.symm hj.2.2.2)]
  exact h
theorem lw (l : Launch) : ek_ok l tQ iG kLw := by
  refine hk_ek (J := fun _ _ ws => iG ws) (I' := iG) ?_ (fun w h => h) (fun i x w w' _ _ h => h)
  refine hk_ok_of (o := 9) (r := (yX9_law, prog_11_method_32_code, 4, some .int)) rfl rfl (by decide +kernel) (by decide) rfl (fun p e s m args below meth c D tys aK aV b0 ad w0 C hret => ?_)
  have fin0 : ev_go p l e (ek_rm kLw) s m args below meth c (MQ below (hk_qc D tys tQ (fun _ _ ws => iG ws) b0 ad w0 kLw true) args s 0 0 (fun q => b0 ≤ q)) D tys tQ iG b0 4 ad w0 [(84, 18), (84, 19), (84, 20), (84, 21), (84, 22), (84, 23), (84, 24), (84, 25), (84, 26), (84, 27), (97, 999), (98, 999), (99, 999), (100, 999), (101, 999), (102, 999), (103, 999), (104, 999), (105, 999), (106, 999), (107, 999)] (fun _ => 0) (31, [some (.inr 86, none), none, some (.inl (0, 0), none), none], [], [], []) := by
    refine hv_go C iG_hI [(84, 18), (84, 19), (84, 20), (84, 21), (84, 22), (84, 23), (84, 24), (84, 25), (84, 26), (84, 27), (97, 999), (98, 999), (99, 999), (100, 999), (101, 999), (102, 999), (103, 999), (104, 999), (105, 999), (106, 999), (107, 999)] [] (8, 166) [] [(84, [none, none, none, none], [(.inl ((-2147483648), 2147483647), ev_nt)], [], [])] 80 ⟨rfl, rfl⟩ (by decide +kernel) trivial ⟨?_, trivial⟩
    exact hs_iret C (i := 0) (fun ls w x _ _ _ hI hx _ => hI) hret rfl rfl rfl (by decide) rfl rfl rfl (by decide +kernel)
  have rows : ∀ (d : Nat) (tp : Nat → Int) (ln : Nat) (σ : Nat → Int) (cm pl : Nat) (SF SH ST : Nat → Int) (n : Nat) (k : Nat) (γ : Nat → Int), γ 0 = (k : Int) → n - k = d → k ≤ 16 → n ≤ 16 → rQs σ cm SF SH ST n → cm ≤ 240 → ev_go p l e (ek_rm kLw) s m args below meth c (MQ below (hk_qc D tys tQ (fun _ _ ws => iG ws) b0 ad w0 kLw true) args s 0 0 (fun q => b0 ≤ q)) D tys tQ (wV tp ln σ cm pl SF SH ST n cm k k k) b0 4 ad w0 [(84, 18), (84, 19), (84, 20), (84, 21), (84, 22), (84, 23), (84, 24), (84, 25), (84, 26), (84, 27), (97, 999), (98, 999), (99, 999), (100, 999), (101, 999), (102, 999), (103, 999), (104, 999), (105, 999), (106, 999), (107, 999)] γ (123, [some (.inr 86, none), none, none, some (.inl (0, 240), some (0, 0))], [], [], []) := by
    intro d
    induction d with
    | zero =>
      intro tp ln σ cm pl SF SH ST n k γ hγ hd hk hn hq hcm
      refine ev_go_fact 84 26 (0, 16) rfl rfl (fun w hw h => by rw [h.1.2.2.2.2]; exact ⟨by dsimp only; omega, by dsimp only; omega⟩) ?_
      refine hv_go C wV_hI [(84, 18), (84, 19), (84, 20), (84, 21), (84, 22), (84, 23), (84, 24), (84, 25), (84, 26), (84, 27), (97, 999), (98, 999), (99, 999), (100, 999), (101, 999), (102, 999), (103, 999), (104, 999), (105, 999), (106, 999), (107, 999)] [] (8, 166) [] [(128, [some (.inr 86, none), none, none, some (.inl (0, 240), some (0, 0))], [(.inl (0, 16), (2, 84, 26, 0)), (.inl (0, 240), (1, 3, 0, 0))], [((2, 84, 26), (0, 16), none)], [])] 80 ⟨rfl, rfl⟩ (by decide +kernel) trivial ⟨?_, trivial⟩
      refine hs_icmp C (cd := .ge) (off := 57) (k : Int) (n : Int) (fun ls w x y hw hl hF hI hx tx hy ty => ?_) (by decide) (by decide +kernel) (fun hc => ?_) (fun hc => ?_)
      · obtain ⟨u, g1, g2⟩ := tag_l tx
        have g3 := lo_mark (i := 3) (n := 0) (d := 0) hl rfl g1
        rw [hγ] at g3
        exact ⟨by omega, by rw [tag_f ty, hI.1.2.2.2.2]; omega⟩
      · refine hv_go C wV_hI [(84, 18), (84, 19), (84, 20), (84, 21), (84, 22), (84, 23), (84, 24), (84, 25), (84, 26), (84, 27), (97, 999), (98, 999), (99, 999), (100, 999), (101, 999), (102, 999), (103, 999), (104, 999), (105, 999), (106, 999), (107, 999)] [] (8, 166) [] [(189, [none, none, none, none], [(.inl ((-2147483648), 2147483647), ev_nt)], [], [])] 80 ⟨rfl, rfl⟩ (by decide +kernel) trivial ⟨?_, trivial⟩
        refine hs_iret C (i := 0) (fun ls w x _ _ _ hI hx _ => ⟨hI.2.1.1, hI.2.1.2, fun q hqn => ?_⟩) hret rfl rfl rfl (by decide) rfl rfl rfl (by decide +kernel)
        rw [hI.2.2.1] at hqn
        obtain ⟨a, h, b, r1, r2, r3, r4, r5, r6⟩ := hq q (by omega)
        exact ⟨a, h, b, by rw [hI.2.2.2.2.1 q (by omega)]; exact r1, by rw [hI.2.2.2.2.2.1 q (by omega)]; exact r2, by rw [hI.2.2.2.2.2.2 q (by omega)]; exact r3, mSeg_same r4 (fun j hj => hI.2.2.2.1 j (by have := r5.1; omega)), mSeg_same r5 (fun j hj => hI.2.2.2.1 j (by omega))⟩
      · have hc : ¬ ((n : Int) ≤ k) := hc
        omega
    | succ d ih =>
      intro tp ln σ cm pl SF SH ST n k γ hγ hd hk hn hq hcm
      refine ev_go_w (P := (∀ q, q < 16 → 0 ≤ SF q ∧ SF q ≤ 260) ∧ (∀ q, q < 16 → 0 ≤ SH q ∧ SH q ≤ 260) ∧ ∀ q, q < 16 → 0 ≤ ST q ∧ ST q ≤ 260) (fun w hw h => ?_) (fun hty => ?_)
      · have b1 := gA_rng (j := 100) (t := (0, 16, 0, 260)) hw rfl (by decide)
        have b2 := gA_rng (j := 101) (t := (0, 16, 0, 260)) hw rfl (by decide)
        have b3 := gA_rng (j := 102) (t := (0, 16, 0, 260)) hw rfl (by decide)
        rw [h.1.2.1] at b1
        rw [h.1.2.2.1] at b2
        rw [h.1.2.2.2.1] at b3
        exact ⟨b1, b2, b3⟩
      refine ev_go_fact 84 26 (0, 16) rfl rfl (fun w hw h => by rw [h.1.2.2.2.2]; exact ⟨by dsimp only; omega, by dsimp only; omega⟩) ?_
      refine hv_go C wV_hI [(84, 18), (84, 19), (84, 20), (84, 21), (84, 22), (84, 23), (84, 24), (84, 25), (84, 26), (84, 27), (97, 999), (98, 999), (99, 999), (100, 999), (101, 999), (102, 999), (103, 999), (104, 999), (105, 999), (106, 999), (107, 999)] [] (8, 166) [] [(128, [some (.inr 86, none), none, none, some (.inl (0, 240), some (0, 0))], [(.inl (0, 16), (2, 84, 26, 0)), (.inl (0, 240), (1, 3, 0, 0))], [((2, 84, 26), (0, 16), none)], [])] 80 ⟨rfl, rfl⟩ (by decide +kernel) trivial ⟨?_, trivial⟩
      refine hs_icmp C (cd := .ge) (off := 57) (k : Int) (n : Int) (fun ls w x y hw hl hF hI hx tx hy ty => ?_) (by decide) (by decide +kernel) (fun hc => ?_) (fun hc => ?_)
      · obtain ⟨u, g1, g2⟩ := tag_l tx
        have g3 := lo_mark (i := 3) (n := 0) (d := 0) hl rfl g1
        rw [hγ] at g3
        exact ⟨by omega, by rw [tag_f ty, hI.1.2.2.2.2]; omega⟩
      · have hc : (n : Int) ≤ k := hc
        omega
      · refine ev_go_lset (i := 3) (n := 0) (d := 0) (q' := (0, 15)) rfl ⟨by dsimp only; omega, by dsimp only; omega⟩ ?_
        have t1 := hty.1 k (by omega)
        have t2 := hty.2.1 k (by omega)
        have t3 := hty.2.2 k (by omega)
        refine hv_go C wV_hI [(84, 18), (84, 19), (84, 20), (84, 21), (84, 22), (84, 23), (84, 24), (84, 25), (84, 26), (84, 27), (97, 999), (98, 999), (99, 999), (100, 999), (101, 999), (102, 999), (103, 999), (104, 999), (105, 999), (106, 999), (107, 999)] [] (8, 166) [] [(153, [some (.inr 86, none), none, none, some (.inl (0, 15), some (0, 0))], [(.inl (0, 15), (1, 3, 0, 0)), (.inr 102, ev_nt), (.inl (0, 15), (1, 3, 0, 0)), (.inr 107, ev_nt)], [], [])] 80 ⟨rfl, rfl⟩ (by decide +kernel) trivial ⟨?_, trivial⟩
        refine hs_ald C (I' := wV tp ln σ cm pl SF SH ST n cm k k k) (b := (SF k, SF k)) (t := (0, 16, 0, 260)) ?_ rfl rfl ?_ (by decide +kernel) ?_
        · intro ls w i x hw hl hF hI hi ti i0 i1 hx hb
          obtain ⟨u, g1, g2⟩ := tag_l ti
          have g3 := lo_mark (i := 3) (n := 0) (d := 0) hl rfl g1
          rw [hγ] at g3
          have e2 : i.toInt.toNat = k := by omega
          rw [hI.1.2.1, e2] at hx
          exact ⟨hI, by show SF k ≤ x.toInt; omega, by show x.toInt ≤ SF k; omega⟩
        · intro ls w i hw hl hF hI hi ti
          obtain ⟨a1, a2⟩ := hi
          dsimp only at a1 a2
          exact ⟨by omega, by show i.toInt < 16; omega⟩
        · refine hs_ast C (I' := wV tp ln σ cm pl SF SH ST n cm (k + 1) k k) (t := (0, 16, 0, 260)) ?_ rfl rfl ?_ (by dsimp only; omega) (by dsimp only; omega) (by decide) (by decide +kernel) ?_
          · intro ls w w' i x hw hl hF hI hi ti hx tx i0 i1 hs hf
            obtain ⟨u, g1, g2⟩ := tag_l ti
            have g3 := lo_mark (i := 3) (n := 0) (d := 0) hl rfl g1
            rw [hγ] at g3
            have e2 : i.toInt.toNat = k := by omega
            have e3 : x.toInt = SF k := by have a1 := hx.1; have a2 := hx.2; dsimp only at a1 a2; omega
            rw [e2, e3] at hs
            exact ⟨bV_sO hI.1 hs (by decide), cG_sO hI.2.1 hs (by decide), by rw [hs.2.2]; exact hI.2.2.1, by rw [hs.2.1 103 (by decide)]; exact hI.2.2.2.1, fun q hq => by
              rw [hs.1]
              show (if q = k then SF k else gA w 105 q) = _
              split
              · rename_i e
                rw [e]
              · exact hI.2.2.2.2.1 q (by omega), by rw [hs.2.1 106 (by decide)]; exact hI.2.2.2.2.2.1, by rw [hs.2.1 107 (by decide)]; exact hI.2.2.2.2.2.2⟩
          · intro ls w i hw hl hF hI hi ti
            obtain ⟨a1, a2⟩ := hi
            dsimp only at a1 a2
            exact ⟨by omega, by show i.toInt < 16; omega⟩
          · refine hv_go C wV_hI [(84, 18), (84, 19), (84, 20), (84, 21), (84, 22), (84, 23), (84, 24), (84, 25), (84, 26), (84, 27), (97, 999), (98, 999), (99, 999), (100, 999), (101, 999), (102, 999), (103, 999), (104, 999), (105, 999), (106, 999), (107, 999)] [] (8, 166) [] [(165, [some (.inr 86, none), none, none, some (.inl (0, 15), some (0, 0))], [(.inl (0, 15), (1, 3, 0, 0)), (.inr 103, ev_nt), (.inl (0, 15), (1, 3, 0, 0)), (.inr 108, ev_nt)], [], [])] 80 ⟨rfl, rfl⟩ (by decide +kernel) trivial ⟨?_, trivial⟩
            refine hs_ald C (I' := wV tp ln σ cm pl SF SH ST n cm (k + 1) k k) (b := (SH k, SH k)) (t := (0, 16, 0, 260)) ?_ rfl rfl ?_ (by decide +kernel) ?_
            · intro ls w i x hw hl hF hI hi ti i0 i1 hx hb
              obtain ⟨u, g1, g2⟩ := tag_l ti
              have g3 := lo_mark (i := 3) (n := 0) (d := 0) hl rfl g1
              rw [hγ] at g3
              have e2 : i.toInt.toNat = k := by omega
              rw [hI.1.2.2.1, e2] at hx
              exact ⟨hI, by show SH k ≤ x.toInt; omega, by show x.toInt ≤ SH k; omega⟩
            · intro ls w i hw hl hF hI hi ti
              obtain ⟨a1, a2⟩ := hi
              dsimp only at a1 a2
              exact ⟨by omega, by show i.toInt < 16; omega⟩
            · refine hs_ast C (I' := wV tp ln σ cm pl SF SH ST n cm (k + 1) (k + 1) k) (t := (0, 16, 0, 260)) ?_ rfl rfl ?_ (by dsimp only; omega) (by dsimp only; omega) (by decide) (by decide +kernel) ?_
              · intro ls w w' i x hw hl hF hI hi ti hx tx i0 i1 hs hf
                obtain ⟨u, g1, g2⟩ := tag_l ti
                have g3 := lo_mark (i := 3) (n := 0) (d := 0) hl rfl g1
                rw [hγ] at g3
                have e2 : i.toInt.toNat = k := by omega
                have e3 : x.toInt = SH k := by have a1 := hx.1; have a2 := hx.2; dsimp only at a1 a2; omega
                rw [e2, e3] at hs
                exact ⟨bV_sO hI.1 hs (by decide), cG_sO hI.2.1 hs (by decide), by rw [hs.2.2]; exact hI.2.2.1, by rw [hs.2.1 103 (by decide)]; exact hI.2.2.2.1, by rw [hs.2.1 105 (by decide)]; exact hI.2.2.2.2.1, fun q hq => by
                  rw [hs.1]
                  show (if q = k then SH k else gA w 106 q) = _
                  split
                  · rename_i e
                    rw [e]
                  · exact hI.2.2.2.2.2.1 q (by omega), by rw [hs.2.1 107 (by decide)]; exact hI.2.2.2.2.2.2⟩
              · intro ls w i hw hl hF hI hi ti
                obtain ⟨a1, a2⟩ := hi
                dsimp only at a1 a2
                exact ⟨by omega, by show i.toInt < 16; omega⟩
              · refine hv_go C wV_hI [(84, 18), (84, 19), (84, 20), (84, 21), (84, 22), (84, 23), (84, 24), (84, 25), (84, 26), (84, 27), (97, 999), (98, 999), (99, 999), (100, 999), (101, 999), (102, 999), (103, 999), (104, 999), (105, 999), (106, 999), (107, 999)] [] (8, 166) [] [(177, [some (.inr 86, none), none, none, some (.inl (0, 15), some (0, 0))], [(.inl (0, 15), (1, 3, 0, 0)), (.inr 104, ev_nt), (.inl (0, 15), (1, 3, 0, 0)), (.inr 109, ev_nt)], [], [])] 80 ⟨rfl, rfl⟩ (by decide +kernel) trivial ⟨?_, trivial⟩
                refine hs_ald C (I' := wV tp ln σ cm pl SF SH ST n cm (k + 1) (k + 1) k) (b := (ST k, ST k)) (t := (0, 16, 0, 260)) ?_ rfl rfl ?_ (by decide +kernel) ?_
                · intro ls w i x hw hl hF hI hi ti i0 i1 hx hb
                  obtain ⟨u, g1, g2⟩ := tag_l ti
                  have g3 := lo_mark (i := 3) (n := 0) (d := 0) hl rfl g1
                  rw [hγ] at g3
                  have e2 : i.toInt.toNat = k := by omega
                  rw [hI.1.2.2.2.1, e2] at hx
                  exact ⟨hI, by show ST k ≤ x.toInt; omega, by show x.toInt ≤ ST k; omega⟩
                · intro ls w i hw hl hF hI hi ti
                  obtain ⟨a1, a2⟩ := hi
                  dsimp only at a1 a2
                  exact ⟨by omega, by show i.toInt < 16; omega⟩
                · refine hs_ast C (I' := wV tp ln σ cm pl SF SH ST n cm (k + 1) (k + 1) (k + 1)) (t := (0, 16, 0, 260)) ?_ rfl rfl ?_ (by dsimp only; omega) (by dsimp only; omega) (by decide) (by decide +kernel) ?_
                  · intro ls w w' i x hw hl hF hI hi ti hx tx i0 i1 hs hf
                    obtain ⟨u, g1, g2⟩ := tag_l ti
                    have g3 := lo_mark (i := 3) (n := 0) (d := 0) hl rfl g1
                    rw [hγ] at g3
                    have e2 : i.toInt.toNat = k := by omega
                    have e3 : x.toInt = ST k := by have a1 := hx.1; have a2 := hx.2; dsimp only at a1 a2; omega
                    rw [e2, e3] at hs
                    exact ⟨bV_sO hI.1 hs (by decide), cG_sO hI.2.1 hs (by decide), by rw [hs.2.2]; exact hI.2.2.1, by rw [hs.2.1 103 (by decide)]; exact hI.2.2.2.1, by rw [hs.2.1 105 (by decide)]; exact hI.2.2.2.2.1, by rw [hs.2.1 106 (by decide)]; exact hI.2.2.2.2.2.1, fun q hq => by
                        rw [hs.1]
                        show (if q = k then ST k else gA w 107 q) = _
                        split
                        · rename_i e
                          rw [e]
                        · exact hI.2.2.2.2.2.2 q (by omega)⟩
                  · intro ls w i hw hl hF hI hi ti
                    obtain ⟨a1, a2⟩ := hi
                    dsimp only at a1 a2
                    exact ⟨by omega, by show i.toInt < 16; omega⟩
                  · refine hv_go C wV_hI [(84, 18), (84, 19), (84, 20), (84, 21), (84, 22), (84, 23), (84, 24), (84, 25), (84, 26), (84, 27), (97, 999), (98, 999), (99, 999), (100, 999), (101, 999), (102, 999), (103, 999), (104, 999), (105, 999), (106, 999), (107, 999)] [] (8, 166) [] [(123, [some (.inr 86, none), none, none, some (.inl (0, 240), some (0, 1))], [], [], [])] 80 ⟨rfl, rfl⟩ (by decide +kernel) trivial ⟨?_, trivial⟩
                    refine ev_go_re (i := 3) (n := 0) (d := 1) (γ' := fun _ => (k : Int) + 1) rfl rfl (by rw [hγ]) ?_
                    exact ih tp ln σ cm pl SF SH ST n (k + 1) (fun _ => (k : Int) + 1) (by simp) (by omega) (by omega) hn hq hcm
  have cods : ∀ (d : Nat) (tp : Nat → Int) (ln : Nat) (σ : Nat → Int) (cm pl : Nat) (SF SH ST : Nat → Int) (n : Nat) (k : Nat) (γ : Nat → Int), γ 0 = (k : Int) → cm - k = d → k ≤ 240 → n ≤ 16 → rQs σ cm SF SH ST n → cm ≤ 240 → ev_go p l e (ek_rm kLw) s m args below meth c (MQ below (hk_qc D tys tQ (fun _ _ ws => iG ws) b0 ad w0 kLw true) args s 0 0 (fun q => b0 ≤ q)) D tys tQ (wV tp ln σ cm pl SF SH ST n k 0 0 0) b0 4 ad w0 [(84, 18), (84, 19), (84, 20), (84, 21), (84, 22), (84, 23), (84, 24), (84, 25), (84, 26), (84, 27), (97, 999), (98, 999), (99, 999), (100, 999), (101, 999), (102, 999), (103, 999), (104, 999), (105, 999), (106, 999), (107, 999)] γ (95, [some (.inr 86, none), none, none, some (.inl (0, 240), some (0, 0))], [], [], []) := by
    intro d
    induction d with
    | zero =>
      intro tp ln σ cm pl SF SH ST n k γ hγ hd hk hn hq hcm
      refine ev_go_fact 84 24 (0, 240) rfl rfl (fun w hw h => by rw [h.1.1.2.1]; exact ⟨by dsimp only; omega, by dsimp only; omega⟩) ?_
      refine hv_go C wV_hI [(84, 18), (84, 19), (84, 20), (84, 21), (84, 22), (84, 23), (84, 24), (84, 25), (84, 26), (84, 27), (97, 999), (98, 999), (99, 999), (100, 999), (101, 999), (102, 999), (103, 999), (104, 999), (105, 999), (106, 999), (107, 999)] [] (8, 166) [] [(100, [some (.inr 86, none), none, none, some (.inl (0, 240), some (0, 0))], [(.inl (0, 240), (2, 84, 24, 0)), (.inl (0, 240), (1, 3, 0, 0))], [], [])] 80 ⟨rfl, rfl⟩ (by decide +kernel) trivial ⟨?_, trivial⟩
      refine hs_icmp C (cd := .ge) (off := 21) (k : Int) (cm : Int) (fun ls w x y hw hl hF hI hx tx hy ty => ?_) (by decide) (by decide +kernel) (fun hc => ?_) (fun hc => ?_)
      · obtain ⟨u, g1, g2⟩ := tag_l tx
        have g3 := lo_mark (i := 3) (n := 0) (d := 0) hl rfl g1
        rw [hγ] at g3
        exact ⟨by omega, by rw [tag_f ty, hI.1.1.2.1]; omega⟩
      · refine ev_go_mono (I' := wV tp ln σ cm pl SF SH ST n cm 0 0 0) (fun w h => ⟨h.1, h.2.1, h.2.2.1, fun i hi => h.2.2.2.1 i (by omega), h.2.2.2.2⟩) ?_
        refine hv_go C wV_hI [(84, 18), (84, 19), (84, 20), (84, 21), (84, 22), (84, 23), (84, 24), (84, 25), (84, 26), (84, 27), (97, 999), (98, 999), (99, 999), (100, 999), (101, 999), (102, 999), (103, 999), (104, 999), (105, 999), (106, 999), (107, 999)] [] (8, 166) [] [(123, [some (.inr 86, none), none, none, some (.inl (0, 0), none)], [], [], [])] 80 ⟨rfl, rfl⟩ (by decide +kernel) trivial ⟨?_, trivial⟩
        refine ev_go_gv 0 0 rfl ?_
        refine ev_go_mark (i := 3) (n := 0) (q' := (0, 240)) (v := 0) rfl (by decide) rfl ?_
        exact rows (n - 0) tp ln σ cm pl SF SH ST n 0 _ rfl rfl (by omega) hn hq hcm
      · have hc : ¬ ((cm : Int) ≤ k) := hc
        omega
    | succ d ih =>
      intro tp ln σ cm pl SF SH ST n k γ hγ hd hk hn hq hcm
      refine ev_go_w (P := ∀ q, q < 260 → -2147483648 ≤ σ q ∧ σ q ≤ 2147483647) (fun w hw h => ?_) (fun hty => ?_)
      · have b1 := gA_rng (j := 97) (t := (0, 260, -2147483648, 2147483647)) hw rfl (by decide)
        rw [h.1.1.1] at b1
        exact b1
      refine ev_go_fact 84 24 (0, 240) rfl rfl (fun w hw h => by rw [h.1.1.2.1]; exact ⟨by dsimp only; omega, by dsimp only; omega⟩) ?_
      refine hv_go C wV_hI [(84, 18), (84, 19), (84, 20), (84, 21), (84, 22), (84, 23), (84, 24), (84, 25), (84, 26), (84, 27), (97, 999), (98, 999), (99, 999), (100, 999), (101, 999), (102, 999), (103, 999), (104, 999), (105, 999), (106, 999), (107, 999)] [] (8, 166) [] [(100, [some (.inr 86, none), none, none, some (.inl (0, 240), some (0, 0))], [(.inl (0, 240), (2, 84, 24, 0)), (.inl (0, 240), (1, 3, 0, 0))], [], [])] 80 ⟨rfl, rfl⟩ (by decide +kernel) trivial ⟨?_, trivial⟩
      refine hs_icmp C (cd := .ge) (off := 21) (k : Int) (cm : Int) (fun ls w x y hw hl hF hI hx tx hy ty => ?_) (by decide) (by decide +kernel) (fun hc => ?_) (fun hc => ?_)
      · obtain ⟨u, g1, g2⟩ := tag_l tx
        have g3 := lo_mark (i := 3) (n := 0) (d := 0) hl rfl g1
        rw [hγ] at g3
        exact ⟨by omega, by rw [tag_f ty, hI.1.1.2.1]; omega⟩
      · have hc : (cm : Int) ≤ k := hc
        omega
      · refine ev_go_lset (i := 3) (n := 0) (d := 0) (q' := (0, 239)) rfl ⟨by dsimp only; omega, by dsimp only; omega⟩ ?_
        have t1 := hty k (by omega)
        refine hv_go C wV_hI [(84, 18), (84, 19), (84, 20), (84, 21), (84, 22), (84, 23), (84, 24), (84, 25), (84, 26), (84, 27), (97, 999), (98, 999), (99, 999), (100, 999), (101, 999), (102, 999), (103, 999), (104, 999), (105, 999), (106, 999), (107, 999)] [] (8, 166) [] [(113, [some (.inr 86, none), none, none, some (.inl (0, 239), some (0, 0))], [(.inl (0, 239), (1, 3, 0, 0)), (.inr 99, ev_nt), (.inl (0, 239), (1, 3, 0, 0)), (.inr 105, ev_nt)], [], [])] 80 ⟨rfl, rfl⟩ (by decide +kernel) trivial ⟨?_, trivial⟩
        refine hs_ald C (I' := wV tp ln σ cm pl SF SH ST n k 0 0 0) (b := (σ k, σ k)) (t := (0, 260, -2147483648, 2147483647)) ?_ rfl rfl ?_ (by decide +kernel) ?_
        · intro ls w i x hw hl hF hI hi ti i0 i1 hx hb
          obtain ⟨u, g1, g2⟩ := tag_l ti
          have g3 := lo_mark (i := 3) (n := 0) (d := 0) hl rfl g1
          rw [hγ] at g3
          have e2 : i.toInt.toNat = k := by omega
          rw [hI.1.1.1, e2] at hx
          exact ⟨hI, by show σ k ≤ x.toInt; omega, by show x.toInt ≤ σ k; omega⟩
        · intro ls w i hw hl hF hI hi ti
          obtain ⟨a1, a2⟩ := hi
          dsimp only at a1 a2
          exact ⟨by omega, by show i.toInt < 260; omega⟩
        · refine hs_ast C (I' := wV tp ln σ cm pl SF SH ST n (k + 1) 0 0 0) (t := (0, 260, -2147483648, 2147483647)) ?_ rfl rfl ?_ (by dsimp only; omega) (by dsimp only; omega) (by decide) (by decide +kernel) ?_
          · intro ls w w' i x hw hl hF hI hi ti hx tx i0 i1 hs hf
            obtain ⟨u, g1, g2⟩ := tag_l ti
            have g3 := lo_mark (i := 3) (n := 0) (d := 0) hl rfl g1
            rw [hγ] at g3
            have e2 : i.toInt.toNat = k := by omega
            have e3 : x.toInt = σ k := by have a1 := hx.1; have a2 := hx.2; dsimp only at a1 a2; omega
            rw [e2, e3] at hs
            exact ⟨bV_sO hI.1 hs (by decide), cG_sO hI.2.1 hs (by decide), by rw [hs.2.2]; exact hI.2.2.1, fun q hq => by
              rw [hs.1]
              show (if q = k then σ k else gA w 103 q) = _
              split
              · rename_i e
                rw [e]
              · exact hI.2.2.2.1 q (by omega), by rw [hs.2.1 105 (by decide)]; exact hI.2.2.2.2.1, by rw [hs.2.1 106 (by decide)]; exact hI.2.2.2.2.2.1, by rw [hs.2.1 107 (by decide)]; exact hI.2.2.2.2.2.2⟩
          · intro ls w i hw hl hF hI hi ti
            obtain ⟨a1, a2⟩ := hi
            dsimp only at a1 a2
            exact ⟨by omega, by show i.toInt < 260; omega⟩
          · refine hv_go C wV_hI [(84, 18), (84, 19), (84, 20), (84, 21), (84, 22), (84, 23), (84, 24), (84, 25), (84, 26), (84, 27), (97, 999), (98, 999), (99, 999), (100, 999), (101, 999), (102, 999), (103, 999), (104, 999), (105, 999), (106, 999), (107, 999)] [] (8, 166) [] [(95, [some (.inr 86, none), none, none, some (.inl (0, 240), some (0, 1))], [], [], [])] 80 ⟨rfl, rfl⟩ (by decide +kernel) trivial ⟨?_, trivial⟩
            refine ev_go_re (i := 3) (n := 0) (d := 1) (γ' := fun _ => (k : Int) + 1) rfl rfl (by rw [hγ]) ?_
            exact ih tp ln σ cm pl SF SH ST n (k + 1) (fun _ => (k : Int) + 1) (by simp) (by omega) (by omega) hn hq hcm
  have main : ∀ (d : Nat) (tp : Nat → Int) (ln : Nat) (σ : Nat → Int) (cm pl : Nat) (SF SH ST : Nat → Int) (n : Nat), 240 - pl = d → rQs σ cm SF SH ST n → cm ≤ pl → n ≤ 16 → ev_go p l e (ek_rm kLw) s m args below meth c (MQ below (hk_qc D tys tQ (fun _ _ ws => iG ws) b0 ad w0 kLw true) args s 0 0 (fun q => b0 ≤ q)) D tys tQ (bG tp ln σ cm pl SF SH ST n) b0 4 ad w0 [(84, 18), (84, 19), (84, 20), (84, 21), (84, 22), (84, 23), (84, 24), (84, 25), (84, 26), (84, 27), (97, 999), (98, 999), (99, 999), (100, 999), (101, 999), (102, 999), (103, 999), (104, 999), (105, 999), (106, 999), (107, 999)] (fun _ => 0) (31, [some (.inr 86, none), none, some (.inl (1, 1), none), none], [], [], []) := by
    intro d
    induction d using Nat.strongRecOn with
    | _ d ih =>
      intro tp ln σ cm pl SF SH ST n hd hq hc hn
      refine ev_go_w (P := pl ≤ 240) (fun w hw h => mB_240 hw h.1.1) (fun hpl => ?_)
      refine hv_go C bG_hI [(84, 18), (84, 19), (84, 20), (84, 21), (84, 22), (84, 23), (84, 24), (84, 25), (84, 26), (84, 27), (97, 999), (98, 999), (99, 999), (100, 999), (101, 999), (102, 999), (103, 999), (104, 999), (105, 999), (106, 999), (107, 999)] [] (8, 166) [] [(49, [some (.inr 86, none), none, some (.inl (1, 1), none), none], [(.inl (59, 59), ev_nt), (.inr 86, ev_nt)], [], []), (71, [some (.inr 86, none), none, some (.inl (1, 1), none), none], [], [], [])] 80 ⟨rfl, rfl⟩ (by decide +kernel) trivial ⟨?_, ?_, trivial⟩
      · refine hs_callV C (A := [(.inl (59, 59), ev_nt)]) (S := []) (j := 84) (i := 314) (mi := 162) (n := 1) (ci := 9) (E := iG) (tk l) (fun w h => h) (fun w w' hf h => iG_hI _ w w' (by decide) hf h) (by decide +kernel) rfl rfl rfl (by decide) rfl (by decide) rfl rfl rfl (by decide) (by decide) (by decide) (by decide +kernel) (fun i u x hu hq9 => ?_)
        match i, hu with
        | 0, hu =>
          cases hu
          have hx0 : x = 0 := by have h1 := hq9.1; have h2 := hq9.2; dsimp only at h1 h2; omega
          subst hx0
          refine ev_go_mono (I' := iG) (fun w h => h.2) ?_
          refine hv_go C iG_hI [(84, 18), (84, 19), (84, 20), (84, 21), (84, 22), (84, 23), (84, 24), (84, 25), (84, 26), (84, 27), (97, 999), (98, 999), (99, 999), (100, 999), (101, 999), (102, 999), (103, 999), (104, 999), (105, 999), (106, 999), (107, 999)] [] (8, 166) [] [(31, [some (.inr 86, none), none, some (.inl (0, 0), none), none], [], [], [])] 80 ⟨rfl, rfl⟩ (by decide +kernel) trivial ⟨?_, trivial⟩
          exact fin0
        | 1, hu =>
          cases hu
          have hx0 : x = 1 := by have h1 := hq9.1; have h2 := hq9.2; dsimp only at h1 h2; omega
          subst hx0
          refine ev_go_mono (I' := bG tp ln σ cm (pl + 1) SF SH ST n) (fun w h => ⟨?_, h.2⟩) ?_
          · rcases h.1 with h9 | h9
            · exact absurd h9.1 (by decide)
            · exact h9.2
          refine ev_go_w (P := pl + 1 ≤ 240) (fun w hw h => mB_240 hw h.1.1) (fun hpl1 => ?_)
          refine hv_go C bG_hI [(84, 18), (84, 19), (84, 20), (84, 21), (84, 22), (84, 23), (84, 24), (84, 25), (84, 26), (84, 27), (97, 999), (98, 999), (99, 999), (100, 999), (101, 999), (102, 999), (103, 999), (104, 999), (105, 999), (106, 999), (107, 999)] [] (8, 166) [] [(56, [some (.inr 86, none), none, some (.inl (1, 1), none), none], [(.inr 86, ev_nt)], [], [])] 80 ⟨rfl, rfl⟩ (by decide +kernel) trivial ⟨?_, trivial⟩
          refine hs_callV C (A := []) (S := []) (j := 84) (i := 311) (mi := 143) (n := 0) (ci := 9) (E := iG) (rR l hq (by omega) hn) (fun w h => h) (fun w w' hf h => iG_hI _ w w' (by decide) hf h) (by decide +kernel) rfl rfl rfl (by decide) rfl (by decide) rfl rfl rfl (by decide) (by decide) (by decide) (by decide +kernel) (fun i u x hu hq9 => ?_)
          match i, hu with
          | 0, hu =>
            cases hu
            have hx0 : x = 0 := by have h1 := hq9.1; have h2 := hq9.2; dsimp only at h1 h2; omega
            subst hx0
            refine ev_go_mono (I' := iG) (fun w h => h.2) ?_
            refine hv_go C iG_hI [(84, 18), (84, 19), (84, 20), (84, 21), (84, 22), (84, 23), (84, 24), (84, 25), (84, 26), (84, 27), (97, 999), (98, 999), (99, 999), (100, 999), (101, 999), (102, 999), (103, 999), (104, 999), (105, 999), (106, 999), (107, 999)] [] (8, 166) [] [(31, [some (.inr 86, none), none, some (.inl (0, 0), none), none], [], [], [])] 80 ⟨rfl, rfl⟩ (by decide +kernel) trivial ⟨?_, trivial⟩
            exact fin0
          | 1, hu =>
            cases hu
            have hx0 : x = 1 := by have h1 := hq9.1; have h2 := hq9.2; dsimp only at h1 h2; omega
            subst hx0
            refine ev_go_mono (I' := fun ws => ∃ v : (Nat → Int) × Nat × Nat × (Nat → Int) × (Nat → Int) × (Nat → Int), (rQs v.1 v.2.1 v.2.2.2.1 v.2.2.2.2.1 v.2.2.2.2.2 (n + 1) ∧ v.2.1 ≤ v.2.2.1 ∧ n + 1 ≤ 16 ∧ pl + 1 ≤ v.2.2.1) ∧ bG tp ln v.1 v.2.1 v.2.2.1 v.2.2.2.1 v.2.2.2.2.1 v.2.2.2.2.2 (n + 1) ws) (fun w h => ?_) (ev_go_exP (fun v hv => ?_))
            · rcases h.1 with h9 | ⟨v, h9, h8⟩
              · exact absurd h9 (by decide)
              · exact ⟨v, h9, h8, h.2⟩
            obtain ⟨σ2, cm2, pl2, SF2, SH2, ST2⟩ := v
            obtain ⟨hq2, hc2, hn2, hp2⟩ := hv
            dsimp only at hq2 hc2 hn2 hp2
            refine ev_go_mono (I' := bG tp ln σ2 cm2 pl2 SF2 SH2 ST2 (n + 1)) (fun w h => h) ?_
            refine ev_go_w (P := pl2 ≤ 240) (fun w hw h => mB_240 hw h.1.1) (fun hpl2 => ?_)
            refine hv_go C bG_hI [(84, 18), (84, 19), (84, 20), (84, 21), (84, 22), (84, 23), (84, 24), (84, 25), (84, 26), (84, 27), (97, 999), (98, 999), (99, 999), (100, 999), (101, 999), (102, 999), (103, 999), (104, 999), (105, 999), (106, 999), (107, 999)] [] (8, 166) [] [(31, [some (.inr 86, none), none, some (.inl (1, 1), none), none], [], [], [])] 80 ⟨rfl, rfl⟩ (by decide +kernel) trivial ⟨?_, trivial⟩
            exact ih (240 - pl2) (by omega) tp ln σ2 cm2 pl2 SF2 SH2 ST2 (n + 1) rfl hq2 hc2 hn2
      · refine ev_go_fact 84 26 (0, 16) rfl rfl (fun w hw h => by rw [h.1.2.2.2.2]; exact ⟨by dsimp only; omega, by dsimp only; omega⟩) ?_
        refine hv_go C bG_hI [(84, 18), (84, 19), (84, 20), (84, 21), (84, 22), (84, 23), (84, 24), (84, 25), (84, 26), (84, 27), (97, 999), (98, 999), (99, 999), (100, 999), (101, 999), (102, 999), (103, 999), (104, 999), (105, 999), (106, 999), (107, 999)] [] (8, 166) [] [(90, [some (.inr 86, none), none, none, none], [(.inl (0, 16), (2, 84, 26, 0)), (.inr 86, ev_nt)], [], [])] 80 ⟨rfl, rfl⟩ (by decide +kernel) trivial ⟨?_, trivial⟩
        refine hs_put C (I' := wV tp ln σ cm pl SF SH ST n 0 0 0 0) (i := 317) (ci := 9) (f := 27) (j := 84) (b := (0, 16)) ?_ (by decide +kernel) rfl (by decide) rfl rfl (by decide) (by decide) (by decide) (by decide) (by decide +kernel) ?_
        · intro ls w w' z hw hl hF hI hz tz hp hf
          have e : z.toInt = (n : Int) := by rw [tag_f tz, hI.1.2.2.2.2]; omega
          obtain ⟨⟨⟨a1, a2, a3, a4, a5⟩, b1, b2, b3, b4⟩, c1, c2, c3⟩ := hI
          refine ⟨⟨⟨by rw [hp.2.2, a1], by rw [hp.2.1 84 24 (by decide), a2], by rw [hp.2.1 84 19 (by decide), a3], by rw [hp.2.2, a4], by rw [hp.2.1 84 20 (by decide), a5]⟩, by rw [hp.2.2, b1], by rw [hp.2.2, b2], by rw [hp.2.2, b3], by rw [hp.2.1 84 26 (by decide), b4]⟩, ⟨by rw [hp.2.2, hp.2.2]; exact c1, by rw [hp.2.2, hp.2.2]; exact c2⟩, by rw [hp.1, e], fun _ h => absurd h (Nat.not_lt_zero _), fun _ h => absurd h (Nat.not_lt_zero _), fun _ h => absurd h (Nat.not_lt_zero _), fun _ h => absurd h (Nat.not_lt_zero _)⟩
        · refine hv_go C wV_hI [(84, 18), (84, 19), (84, 20), (84, 21), (84, 22), (84, 23), (84, 24), (84, 25), (84, 26), (84, 27), (97, 999), (98, 999), (99, 999), (100, 999), (101, 999), (102, 999), (103, 999), (104, 999), (105, 999), (106, 999), (107, 999)] [] (8, 166) [] [(95, [some (.inr 86, none), none, none, some (.inl (0, 0), none)], [], [], [])] 80 ⟨rfl, rfl⟩ (by decide +kernel) trivial ⟨?_, trivial⟩
          refine ev_go_gv 0 0 rfl ?_
          refine ev_go_mark (i := 3) (n := 0) (q' := (0, 240)) (v := 0) rfl (by decide) rfl ?_
          exact cods (cm - 0) tp ln σ cm pl SF SH ST n 0 _ rfl rfl (by omega) hn hq (by omega)
  refine hv_go C iG_hI [(84, 18), (84, 19), (84, 20), (84, 21), (84, 22), (84, 23), (84, 24), (84, 25), (84, 26), (84, 27), (97, 999), (98, 999), (99, 999), (100, 999), (101, 999), (102, 999), (103, 999), (104, 999), (105, 999), (106, 999), (107, 999)] [kq_182, kq_183] (8, 166) [] [(20, [none, none, none, none], [(.inl ((-1), (-1)), ev_nt)], [], []), (27, [some (.inr 86, none), none, none, none], [(.inr 86, ev_nt)], [((2, 84, 19), (0, 0), none), ((2, 84, 24), (0, 0), none), ((2, 84, 26), (0, 0), none)], [])] 80 ⟨rfl, rfl⟩ (by decide +kernel) ⟨ek_upS iG_hI (fun _ _ => trivial) rfl (qk_182 l), ek_upS iG_hI (fun _ _ => trivial) rfl (qk_183 l), trivial⟩ ⟨?_, ?_, trivial⟩
  · exact hs_iret C (i := 0) (fun ls w x _ _ _ hI hx _ => hI) hret rfl rfl rfl (by decide) rfl rfl rfl (by decide +kernel)
  · refine ev_go_monoF (I' := fun ws => ∃ v : (Nat → Int) × Nat × (Nat → Int) × (Nat → Int) × (Nat → Int) × (Nat → Int), True ∧ bG v.1 v.2.1 v.2.2.1 0 0 v.2.2.2.1 v.2.2.2.2.1 v.2.2.2.2.2 0 ws) (fun ls w hw hl hF hI => ?_) (ev_go_exP (fun v _ => ?_))
    · have f1 := fact_f (hF ((2, 84, 19), (0, 0), none) (by simp))
      have f2 := fact_f (hF ((2, 84, 24), (0, 0), none) (by simp))
      have f3 := fact_f (hF ((2, 84, 26), (0, 0), none) (by simp))
      have f4 := (gI_rng (j := 84) (f := 20) hw rfl rfl).1
      dsimp only at f1 f2 f3 f4
      refine ⟨(gA w 96, (gI w 84 20).toNat, gA w 97, gA w 100, gA w 101, gA w 102), trivial, ⟨⟨rfl, ?_, ?_, rfl, ?_⟩, rfl, rfl, rfl, ?_⟩, hI⟩
      · show _ = ((0 : Nat) : Int)
        omega
      · show _ = ((0 : Nat) : Int)
        omega
      · show _ = (((gI w 84 20).toNat : Nat) : Int)
        omega
      · show _ = ((0 : Nat) : Int)
        omega
    obtain ⟨tp, ln, σ, SF, SH, ST⟩ := v
    refine ev_go_mono (I' := bG tp ln σ 0 0 SF SH ST 0) (fun w h => h) ?_
    refine hs_callV C (A := []) (S := []) (j := 84) (i := 311) (mi := 143) (n := 0) (ci := 9) (E := iG) (rR l (fun q hq => absurd hq (Nat.not_lt_zero _)) (Nat.le_refl _) (by omega)) (fun w h => h) (fun w w' hf h => iG_hI _ w w' (by decide) hf h) (by decide +kernel) rfl rfl rfl (by decide) rfl (by decide) rfl rfl rfl (by decide) (by decide) (by decide) (by decide +kernel) (fun i u x hu hq9 => ?_)
    match i, hu with
    | 0, hu =>
      cases hu
      have hx0 : x = 0 := by have h1 := hq9.1; have h2 := hq9.2; dsimp only at h1 h2; omega
      subst hx0
      refine ev_go_mono (I' := iG) (fun w h => h.2) ?_
      refine hv_go C iG_hI [(84, 18), (84, 19), (84, 20), (84, 21), (84, 22), (84, 23), (84, 24), (84, 25), (84, 26), (84, 27), (97, 999), (98, 999), (99, 999), (100, 999), (101, 999), (102, 999), (103, 999), (104, 999), (105, 999), (106, 999), (107, 999)] [] (8, 166) [] [(31, [some (.inr 86, none), none, some (.inl (0, 0), none), none], [], [], [])] 80 ⟨rfl, rfl⟩ (by decide +kernel) trivial ⟨?_, trivial⟩
      exact fin0
    | 1, hu =>
      cases hu
      have hx0 : x = 1 := by have h1 := hq9.1; have h2 := hq9.2; dsimp only at h1 h2; omega
      subst hx0
      refine ev_go_mono (I' := fun ws => ∃ v : (Nat → Int) × Nat × Nat × (Nat → Int) × (Nat → Int) × (Nat → Int), (rQs v.1 v.2.1 v.2.2.2.1 v.2.2.2.2.1 v.2.2.2.2.2 (0 + 1) ∧ v.2.1 ≤ v.2.2.1 ∧ 0 + 1 ≤ 16 ∧ 0 ≤ v.2.2.1) ∧ bG tp ln v.1 v.2.1 v.2.2.1 v.2.2.2.1 v.2.2.2.2.1 v.2.2.2.2.2 (0 + 1) ws) (fun w h => ?_) (ev_go_exP (fun v hv => ?_))
      · rcases h.1 with h9 | ⟨v, h9, h8⟩
        · exact absurd h9 (by decide)
        · exact ⟨v, h9, h8, h.2⟩
      obtain ⟨σ2, cm2, pl2, SF2, SH2, ST2⟩ := v
      obtain ⟨hq2, hc2, hn2, hp2⟩ := hv
      dsimp only at hq2 hc2 hn2 hp2
      refine ev_go_mono (I' := bG tp ln σ2 cm2 pl2 SF2 SH2 ST2 (0 + 1)) (fun w h => h) ?_
      refine hv_go C bG_hI [(84, 18), (84, 19), (84, 20), (84, 21), (84, 22), (84, 23), (84, 24), (84, 25), (84, 26), (84, 27), (97, 999), (98, 999), (99, 999), (100, 999), (101, 999), (102, 999), (103, 999), (104, 999), (105, 999), (106, 999), (107, 999)] [] (8, 166) [] [(31, [some (.inr 86, none), none, some (.inl (1, 1), none), none], [], [], [])] 80 ⟨rfl, rfl⟩ (by decide +kernel) trivial ⟨?_, trivial⟩
      exact main (240 - pl2) tp ln σ2 cm2 pl2 SF2 SH2 ST2 (0 + 1) rfl hq2 hc2 hn2
