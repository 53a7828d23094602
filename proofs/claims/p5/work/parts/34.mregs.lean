def sH : List (Nat × Nat) := [(84, 19), (96, 999), (84, 20)]
def hV (tp : Nat → Int) (ln pl : Nat) (ws : va_W) : Prop := gI ws 84 19 = (pl : Int) ∧ gA ws 96 = tp ∧ gI ws 84 20 = (ln : Int)
theorem hV_hI {tp : Nat → Int} {ln pl : Nat} : ev_hI (hV tp ln pl) sH := fun W1 w w' h1 h2 h => ⟨(gI_fr h2 (fun h => h1 _ h (by simp [sH]))).trans h.1, (gA_fr h2 (fun h => h1 _ h (by simp [sH]))).trans h.2.1, (gI_fr h2 (fun h => h1 _ h (by simp [sH]))).trans h.2.2⟩
theorem hbR (l : Launch) {tp : Nat → Int} {ln pl : Nat} (a b : Int) (h0 : 0 ≤ a) (h : a ≤ hr tp ln pl ∧ hr tp ln pl ≤ b) : ek_ok l tQ (hV tp ln pl) (kR a b) := by
  refine hk_ek (J := fun _ _ ws => hV tp ln pl ws) (I' := hV tp ln pl) ?_ (fun w h => h) (fun i x w w' _ _ h => h)
  refine hk_ok_of (o := 9) (r := (yX9_here, prog_11_method_11_code, 1, some .int)) rfl rfl (by decide +kernel) (Nat.le_refl 1) rfl (fun p e s m args below meth c D tys aK aV b0 ad w0 C hret => ?_)
  refine ev_go_w (P := ln ≤ 240) (fun w hw h => ?_) (fun hln => ?_)
  · have h1 := (gI_rng (j := 84) (f := 20) hw rfl rfl).1.2
    rw [h.2.2] at h1
    dsimp only at h1
    omega
  have hrr := hr_rng tp ln pl
  refine hv_go C hV_hI [] [] (0, 0) [] [(8, [some (.inr 86, none)], [(.inl (0, 240), (2, 84, 20, 0)), (.inl (0, 240), (2, 84, 19, 0))], [], [])] 80 (st := (0, [some (.inr 86, none)], [], [], [])) ⟨rfl, rfl⟩ (by decide +kernel) trivial ⟨?_, trivial⟩
  refine hs_icmp C (cd := .ge) (off := 19) (pl : Int) (ln : Int) (fun ls w x y hw hl hF hI hx tx hy ty => ?_) (by decide) (by decide +kernel) (fun hc => ?_) (fun hc => ?_)
  · exact ⟨by rw [tag_f tx, hI.1]; omega, by rw [tag_f ty, hI.2.2]; omega⟩
  · have hc : (ln : Int) ≤ pl := hc
    omega
  · have hc : ¬ ((ln : Int) ≤ pl) := hc
    refine ev_go_fact 84 19 (0, 239) rfl rfl (fun w hw h => by rw [h.1]; exact ⟨by dsimp only; omega, by dsimp only; omega⟩) ?_
    refine hv_go C hV_hI [] [] (0, 0) [] [(19, [none], [(.inl (0, 239), (2, 84, 19, 0)), (.inr 98, ev_nt)], [((2, 84, 19), (0, 239), none)], [])] 80 ⟨rfl, rfl⟩ (by decide +kernel) trivial ⟨?_, trivial⟩
    refine hs_bald C (I' := hV tp ln pl) (b := (tp pl, tp pl)) (t := (2, 260, -128, 127)) ?_ rfl rfl ?_ (by decide +kernel) ?_
    · intro ls w i x hw hl hF hI hi ti i0 i1 hx hb
      have e : i.toInt = (pl : Int) := by rw [tag_f ti, hI.1]; omega
      have e2 : i.toInt.toNat = pl := by omega
      rw [hI.2.1, e2] at hx
      exact ⟨hI, by show tp pl ≤ x.toInt; omega, by show x.toInt ≤ tp pl; omega⟩
    · intro ls w i hw hl hF hI hi ti
      obtain ⟨a1, a2⟩ := hi
      dsimp only at a1 a2
      exact ⟨by omega, by show i.toInt < 260; omega⟩
    · refine ev_op_ok C hV_hI (K := []) (rm := (0, 0)) (fun _ h => absurd h List.not_mem_nil) ⟨rfl, rfl⟩ (op := .sipush 255) (len := 3) (by decide +kernel) rfl (fun st hst => ?_)
      rw [List.mem_singleton.mp hst]
      refine hs_and C (by decide +kernel) ?_
      have e3 : (Int32.ofInt (tp pl) &&& Int32.ofInt 255).toInt = hr tp ln pl := by unfold hr; rw [if_pos (by omega)]
      refine ev_op_ok C hV_hI (K := []) (rm := (0, 0)) (fun _ h => absurd h List.not_mem_nil) ⟨rfl, rfl⟩ (op := .goto 4) (len := 3) (by decide +kernel) rfl (fun st hst => ?_)
      rw [List.mem_singleton.mp hst]
      refine hs_iret C (i := 0) (fun ls w x _ _ _ hI hx _ => hI) hret rfl rfl rfl ?_ rfl rfl rfl (by decide +kernel)
      show (decide (a ≤ (Int32.ofInt (tp pl) &&& Int32.ofInt 255).toInt) && decide ((Int32.ofInt (tp pl) &&& Int32.ofInt 255).toInt ≤ b)) = true
      rw [e3]
      simp [h.1, h.2]
theorem hbN (l : Launch) {tp : Nat → Int} {ln pl : Nat} (h : hr tp ln pl = -1) : ek_ok l tQ (hV tp ln pl) kRn := by
  refine hk_ek (J := fun _ _ ws => hV tp ln pl ws) (I' := hV tp ln pl) ?_ (fun w h => h) (fun i x w w' _ _ h => h)
  refine hk_ok_of (o := 9) (r := (yX9_here, prog_11_method_11_code, 1, some .int)) rfl rfl (by decide +kernel) (by decide) rfl (fun p e s m args below meth c D tys aK aV b0 ad w0 C hret => ?_)
  refine ev_go_w (P := ln ≤ 240) (fun w hw h => ?_) (fun hln => ?_)
  · have h1 := (gI_rng (j := 84) (f := 20) hw rfl rfl).1.2
    rw [h.2.2] at h1
    dsimp only at h1
    omega
  have hrr := hr_rng tp ln pl
  refine hv_go C hV_hI [] [] (0, 0) [] [(8, [some (.inr 86, none)], [(.inl (0, 240), (2, 84, 20, 0)), (.inl (0, 240), (2, 84, 19, 0))], [], [])] 80 (st := (0, [some (.inr 86, none)], [], [], [])) ⟨rfl, rfl⟩ (by decide +kernel) trivial ⟨?_, trivial⟩
  refine hs_icmp C (cd := .ge) (off := 19) (pl : Int) (ln : Int) (fun ls w x y hw hl hF hI hx tx hy ty => ?_) (by decide) (by decide +kernel) (fun hc => ?_) (fun hc => ?_)
  · exact ⟨by rw [tag_f tx, hI.1]; omega, by rw [tag_f ty, hI.2.2]; omega⟩
  · have hc : (ln : Int) ≤ pl := hc
    refine hv_go C hV_hI [] [] (0, 0) [] [(28, [none], [(.inl ((-1), (-1)), ev_nt)], [], [])] 80 ⟨rfl, rfl⟩ (by decide +kernel) trivial ⟨?_, trivial⟩
    exact hs_iret C (i := 0) (fun ls w x _ _ _ hI hx _ => hI) hret rfl rfl rfl (by decide) rfl rfl rfl (by decide +kernel)
  · have hc : ¬ ((ln : Int) ≤ pl) := hc
    omega
def kRg : ek := (167, [.inr 86], [], [(84, 19), (84, 21), (84, 22)], [(some (.inl (0, 0)), []), (some (.inl (1, 1)), [((2, 84, 19), (1, 240), none), ((2, 84, 22), (0, 7), none)])], 1, 22)
theorem rG (l : Launch) : ek_ok l tQ iG kRg := by
  have key : hk_ok l tQ (fun _ => True) (fun _ _ _ => True) kRg := by
    refine hk_ok_of (o := 9) (r := (yX9_readsRegister, prog_11_method_38_code, 1, some .boolean)) rfl rfl (by decide +kernel) (by decide) rfl (fun p e s m args below meth c D tys aK aV b0 ad w0 C hret => ?_)
    refine ev_go_monoF (I' := fun ws => ∃ v : (Nat → Int) × Nat × Nat, v.2.1 ≤ 240 ∧ hV v.1 v.2.1 v.2.2 ws) (fun ls w hw hl hF hI => ?_) (ev_go_exP (fun v hv => ?_))
    · have f4 := (gI_rng (j := 84) (f := 20) hw rfl rfl).1
      have f5 := (gI_rng (j := 84) (f := 19) hw rfl rfl).1
      dsimp only at f4 f5
      refine ⟨(gA w 96, (gI w 84 20).toNat, (gI w 84 19).toNat), ?_, ?_, rfl, ?_⟩
      · show (gI w 84 20).toNat ≤ 240
        omega
      · show gI w 84 19 = (((gI w 84 19).toNat : Nat) : Int)
        omega
      · show gI w 84 20 = (((gI w 84 20).toNat : Nat) : Int)
        omega
    obtain ⟨tp, ln, pl⟩ := v
    refine ev_go_mono (I' := hV tp ln pl) (fun w h => h) ?_
    have hrr := hr_rng tp ln pl
    have hx : hr tp ln pl = -1 ∨ (0 ≤ hr tp ln pl ∧ hr tp ln pl ≤ 47) ∨ (48 ≤ hr tp ln pl ∧ hr tp ln pl ≤ 55) ∨ (56 ≤ hr tp ln pl ∧ hr tp ln pl ≤ 255) := by omega
    rcases hx with hx | hx | hx | hx
    · refine hv_go C hV_hI [(84, 19), (84, 21), (84, 22)] [kRn, kq_3015, kq_185] (1, 22) [] [(23, [none], [(.inl (0, 0), ev_nt)], [], [])] 80 ⟨rfl, rfl⟩ (by decide +kernel) ⟨hbN l hx, ek_upS hV_hI (fun _ _ => trivial) rfl (qk_3015 l), ek_upS hV_hI (fun _ _ => trivial) rfl (qk_185 l), trivial⟩ ⟨?_, trivial⟩
      exact hs_iret C (i := 0) (fun ls w x _ _ _ hI hx _ => trivial) hret rfl rfl rfl (by decide) rfl rfl rfl (by decide +kernel)
    · refine hv_go C hV_hI [(84, 19), (84, 21), (84, 22)] [kR 0 47, kq_3016, kq_185] (1, 22) [] [(23, [none], [(.inl (0, 0), ev_nt)], [], [])] 80 ⟨rfl, rfl⟩ (by decide +kernel) ⟨hbR l 0 47 (by decide) hx, ek_upS hV_hI (fun _ _ => trivial) rfl (qk_3016 l), ek_upS hV_hI (fun _ _ => trivial) rfl (qk_185 l), trivial⟩ ⟨?_, trivial⟩
      exact hs_iret C (i := 0) (fun ls w x _ _ _ hI hx _ => trivial) hret rfl rfl rfl (by decide) rfl rfl rfl (by decide +kernel)
    · refine hv_go C hV_hI [(84, 19), (84, 21), (84, 22)] [kR 48 55, kq_3017] (1, 22) [] [(42, [none], [(.inl (1, 240), (2, 84, 19, 1)), (.inr 86, ev_nt)], [((2, 84, 22), (0, 7), none)], [])] 80 ⟨rfl, rfl⟩ (by decide +kernel) ⟨hbR l 48 55 (by decide) hx, ek_upS hV_hI (fun _ _ => trivial) rfl (qk_3017 l), trivial⟩ ⟨?_, trivial⟩
      refine hs_put C (I' := fun _ => True) (i := 222) (ci := 9) (f := 19) (j := 84) (b := (0, 240)) ?_ (by decide +kernel) rfl (by decide) rfl rfl (by decide) (by decide) (by decide) (by decide) (by decide +kernel) ?_
      · intro ls w w' z hw hl hF hI hz tz hp hf
        trivial
      · refine hv_go C tr_hI [(84, 19), (84, 21), (84, 22)] [] (1, 22) [] [(46, [none], [(.inl (1, 1), ev_nt)], [((2, 84, 19), (1, 240), none), ((2, 84, 22), (0, 7), none)], [])] 80 ⟨rfl, rfl⟩ (by decide +kernel) trivial ⟨?_, trivial⟩
        exact hs_iret C (i := 1) (fun ls w x _ _ _ hI hx _ => trivial) hret rfl rfl rfl (by decide) rfl rfl rfl (by decide +kernel)
    · refine hv_go C hV_hI [(84, 19), (84, 21), (84, 22)] [kR 56 255, kq_3018, kq_185] (1, 22) [] [(23, [none], [(.inl (0, 0), ev_nt)], [], [])] 80 ⟨rfl, rfl⟩ (by decide +kernel) ⟨hbR l 56 255 (by decide) hx, ek_upS hV_hI (fun _ _ => trivial) rfl (qk_3018 l), ek_upS hV_hI (fun _ _ => trivial) rfl (qk_185 l), trivial⟩ ⟨?_, trivial⟩
      exact hs_iret C (i := 0) (fun ls w x _ _ _ hI hx _ => trivial) hret rfl rfl rfl (by decide) rfl rfl rfl (by decide +kernel)
  exact hk_ek key (fun _ _ => trivial) (fun i x w w' hI hf _ => iG_hI _ w w' (by decide) hf hI)
