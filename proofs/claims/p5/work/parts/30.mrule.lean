/-- between calls: letters of the class's laws, codes of the reference's -/
def lC (S O : Nat → Int) : Prop := ∀ k : Nat, k < 240 → S k = 97 → 0 ≤ O k ∧ O k ≤ 6
def mC (ws : va_W) : Prop := ∀ q : Nat, (q : Int) < gI ws 84 27 → ∃ a h b : Nat, gA ws 105 q = a ∧ gA ws 106 q = h ∧ gA ws 107 q = b ∧ mSeg (gA ws 103) a h ∧ mSeg (gA ws 103) h b
def iG (ws : va_W) : Prop := lC (gA ws 20) (gA ws 21) ∧ lC (gA ws 61) (gA ws 62) ∧ mC ws
def sG : List (Nat × Nat) := [(20, 999), (21, 999), (61, 999), (62, 999), (103, 999), (105, 999), (106, 999), (107, 999), (84, 27)]
theorem iG_hI : ev_hI iG sG := by
  intro W1 w w' h1 h2 h
  have a1 := gA_fr (j := 20) h2 (fun h => h1 _ h (by simp [sG]))
  have a2 := gA_fr (j := 21) h2 (fun h => h1 _ h (by simp [sG]))
  have a3 := gA_fr (j := 61) h2 (fun h => h1 _ h (by simp [sG]))
  have a4 := gA_fr (j := 62) h2 (fun h => h1 _ h (by simp [sG]))
  have a5 := gA_fr (j := 103) h2 (fun h => h1 _ h (by simp [sG]))
  have a6 := gA_fr (j := 105) h2 (fun h => h1 _ h (by simp [sG]))
  have a7 := gA_fr (j := 106) h2 (fun h => h1 _ h (by simp [sG]))
  have a8 := gA_fr (j := 107) h2 (fun h => h1 _ h (by simp [sG]))
  have a9 := gI_fr (j := 84) (f := 27) h2 (fun h => h1 _ h (by simp [sG]))
  unfold iG mC at *
  rw [a1, a2, a3, a4, a5, a6, a7, a8, a9]
  exact h
/-- the rows of the rules that have been read -/
def sS : List (Nat × Nat) := [(100, 999), (101, 999), (102, 999), (84, 26)]
def sV (SF SH ST : Nat → Int) (n : Nat) (ws : va_W) : Prop := gA ws 100 = SF ∧ gA ws 101 = SH ∧ gA ws 102 = ST ∧ gI ws 84 26 = (n : Int)
theorem sV_hI {SF SH ST : Nat → Int} {n : Nat} : ev_hI (sV SF SH ST n) sS := by
  intro W1 w w' h1 h2 h
  obtain ⟨h3, h4, h5, h6⟩ := h
  exact ⟨(gA_fr h2 (fun h => h1 _ h (by simp [sS]))).trans h3, (gA_fr h2 (fun h => h1 _ h (by simp [sS]))).trans h4, (gA_fr h2 (fun h => h1 _ h (by simp [sS]))).trans h5, (gI_fr h2 (fun h => h1 _ h (by simp [sS]))).trans h6⟩
def rQs (σ : Nat → Int) (c : Nat) (SF SH ST : Nat → Int) (n : Nat) : Prop := ∀ q : Nat, q < n → ∃ a h b : Nat, SF q = a ∧ SH q = h ∧ ST q = b ∧ mSeg σ a h ∧ mSeg σ h b ∧ b ≤ c
/-- the text, its length, the codes, the place: without those that wait -/
def sB : List (Nat × Nat) := [(97, 999), (84, 24), (84, 19), (96, 999), (84, 20)] ++ sS
def mB (tp : Nat → Int) (ln : Nat) (σ : Nat → Int) (c p : Nat) (ws : va_W) : Prop := gA ws 97 = σ ∧ gI ws 84 24 = (c : Int) ∧ gI ws 84 19 = (p : Int) ∧ gA ws 96 = tp ∧ gI ws 84 20 = (ln : Int)
def bV (tp : Nat → Int) (ln : Nat) (σ : Nat → Int) (c p : Nat) (SF SH ST : Nat → Int) (n : Nat) (ws : va_W) : Prop := mB tp ln σ c p ws ∧ sV SF SH ST n ws
theorem bV_hI {tp : Nat → Int} {ln : Nat} {σ : Nat → Int} {c p : Nat} {SF SH ST : Nat → Int} {n : Nat} : ev_hI (bV tp ln σ c p SF SH ST n) sB := by
  intro W1 w w' h1 h2 h
  obtain ⟨⟨h3, h4, h5, h6, h7⟩, h8, h9, h10, h11⟩ := h
  exact ⟨⟨(gA_fr h2 (fun h => h1 _ h (by simp [sB]))).trans h3, (gI_fr h2 (fun h => h1 _ h (by simp [sB]))).trans h4, (gI_fr h2 (fun h => h1 _ h (by simp [sB]))).trans h5, (gA_fr h2 (fun h => h1 _ h (by simp [sB]))).trans h6, (gI_fr h2 (fun h => h1 _ h (by simp [sB]))).trans h7⟩, (gA_fr h2 (fun h => h1 _ h (by simp [sB, sS]))).trans h8, (gA_fr h2 (fun h => h1 _ h (by simp [sB, sS]))).trans h9, (gA_fr h2 (fun h => h1 _ h (by simp [sB, sS]))).trans h10, (gI_fr h2 (fun h => h1 _ h (by simp [sB, sS]))).trans h11⟩
/-- with those that wait -/
def sR : List (Nat × Nat) := sM ++ sS
def rV (tp : Nat → Int) (ln : Nat) (σ : Nat → Int) (c : Nat) (wt : Nat → Int) (w p : Nat) (SF SH ST : Nat → Int) (n : Nat) (ws : va_W) : Prop := mV tp ln σ c wt w p ws ∧ sV SF SH ST n ws
theorem rV_hI {tp : Nat → Int} {ln : Nat} {σ : Nat → Int} {c : Nat} {wt : Nat → Int} {w p : Nat} {SF SH ST : Nat → Int} {n : Nat} : ev_hI (rV tp ln σ c wt w p SF SH ST n) sR := fun W1 w w' h1 h2 h => ⟨mV_hI W1 w w' (fun q hq hm => h1 q hq (List.mem_append_left _ hm)) h2 h.1, sV_hI W1 w w' (fun q hq hm => h1 q hq (List.mem_append_right _ hm)) h2 h.2⟩
theorem rV_bV {tp : Nat → Int} {ln : Nat} {σ : Nat → Int} {c : Nat} {wt : Nat → Int} {w p : Nat} {SF SH ST : Nat → Int} {n : Nat} {ws : va_W} (h : rV tp ln σ c wt w p SF SH ST n ws) : bV tp ln σ c p SF SH ST n ws := ⟨⟨h.1.1, h.1.2.1, h.1.2.2.2.2.1, h.1.2.2.2.2.2.1, h.1.2.2.2.2.2.2⟩, h.2⟩
theorem mV_sO {tp : Nat → Int} {ln : Nat} {σ : Nat → Int} {c : Nat} {wt : Nat → Int} {w p j i : Nat} {x : Int} {ws ws' : va_W} (h : mV tp ln σ c wt w p ws) (hs : gS j i x ws ws') (hj : j ≠ 97 ∧ j ≠ 98 ∧ j ≠ 96) : mV tp ln σ c wt w p ws' := by
  obtain ⟨h1, h2, h3, h4, h5, h6, h7⟩ := h
  exact ⟨by rw [hs.2.1 97 (Ne.symm hj.1), h1], by rw [hs.2.2, h2], by rw [hs.2.1 98 (Ne.symm hj.2.1), h3], by rw [hs.2.2, h4], by rw [hs.2.2, h5], by rw [hs.2.1 96 (Ne.symm hj.2.2), h6], by rw [hs.2.2, h7]⟩
theorem mB_sO {tp : Nat → Int} {ln : Nat} {σ : Nat → Int} {c p j i : Nat} {x : Int} {ws ws' : va_W} (h : mB tp ln σ c p ws) (hs : gS j i x ws ws') (hj : j ≠ 97 ∧ j ≠ 96) : mB tp ln σ c p ws' := by
  obtain ⟨h1, h2, h5, h6, h7⟩ := h
  exact ⟨by rw [hs.2.1 97 (Ne.symm hj.1), h1], by rw [hs.2.2, h2], by rw [hs.2.2, h5], by rw [hs.2.1 96 (Ne.symm hj.2), h6], by rw [hs.2.2, h7]⟩
theorem sV_pO {SF SH ST : Nat → Int} {n f : Nat} {x : Int} {ws ws' : va_W} (h : sV SF SH ST n ws) (hp : gP 84 f x ws ws') (hf : f ≠ 26) : sV SF SH ST n ws' := by
  obtain ⟨h1, h2, h3, h4⟩ := h
  exact ⟨by rw [hp.2.2, h1], by rw [hp.2.2, h2], by rw [hp.2.2, h3], by rw [hp.2.1 84 26 (fun h => hf h.2.symm), h4]⟩
theorem mB_p19 {tp : Nat → Int} {ln : Nat} {σ : Nat → Int} {c p p' : Nat} {x : Int} {ws ws' : va_W} (h : mB tp ln σ c p ws) (hp : gP 84 19 x ws ws') (hx : x = p') : mB tp ln σ c p' ws' := by
  obtain ⟨h1, h2, h3, h4, h5⟩ := h
  exact ⟨by rw [hp.2.2, h1], by rw [hp.2.1 84 24 (by decide), h2], by rw [hp.1, hx], by rw [hp.2.2, h4], by rw [hp.2.1 84 20 (by decide), h5]⟩
theorem mB_240 {tp : Nat → Int} {ln : Nat} {σ : Nat → Int} {c p : Nat} {tys : List (ClassId × FieldType)} {ad : Nat → Nat} {ws : va_W} (hw : ev_w tys tQ ad ws) (h : mB tp ln σ c p ws) : p ≤ 240 := by
  have h1 := (gI_rng (j := 84) (f := 19) hw rfl rfl).1.2
  rw [h.2.2.1] at h1
  dsimp only at h1
  omega
def kT : ek := (162, [.inr 86, .inl (59, 59)], [], [(84, 19), (84, 21)], [(some (.inl (0, 0)), []), (some (.inl (1, 1)), [])], 1, 22)
theorem tk (l : Launch) {tp : Nat → Int} {ln : Nat} {σ : Nat → Int} {cm pl : Nat} {SF SH ST : Nat → Int} {n : Nat} : hk_ok l tQ (bV tp ln σ cm pl SF SH ST n) (fun i _ ws => (i = 0 ∧ bV tp ln σ cm pl SF SH ST n ws) ∨ (i = 1 ∧ bV tp ln σ cm (pl + 1) SF SH ST n ws)) kT := by
  refine hk_ok_of (o := 9) (r := (yX9_takes, prog_11_method_14_code, 2, some .boolean)) rfl rfl (by decide +kernel) (by decide) rfl (fun p e s m args below meth c D tys aK aV b0 ad w0 C hret => ?_)
  refine hv_go C bV_hI [(84, 19), (84, 21)] [kq_184, kq_185] (1, 22) [] [(17, [none, none], [(.inl (0, 0), ev_nt)], [], []), (25, [none, none], [(.inl (1, 240), (2, 84, 19, 1)), (.inr 86, ev_nt)], [], [])] 80 ⟨rfl, rfl⟩ (by decide +kernel) ⟨ek_upS bV_hI (fun _ _ => trivial) rfl (qk_184 l), ek_upS bV_hI (fun _ _ => trivial) rfl (qk_185 l), trivial⟩ ⟨?_, ?_, trivial⟩
  · exact hs_iret C (i := 0) (fun ls w x _ _ _ hI hx _ => Or.inl ⟨rfl, hI⟩) hret rfl rfl rfl (by decide) rfl rfl rfl (by decide +kernel)
  · refine hs_put C (I' := bV tp ln σ cm (pl + 1) SF SH ST n) (i := 222) (ci := 9) (f := 19) (j := 84) (b := (0, 240)) ?_ (by decide +kernel) rfl (by decide) rfl rfl (by decide) (by decide) (by decide) (by decide) (by decide +kernel) ?_
    · intro ls w w' z hw hl hF hI hz tz hp hf
      exact ⟨mB_p19 hI.1 hp (by rw [tag_f tz, hI.1.2.2.1]; omega), sV_pO hI.2 hp (by decide)⟩
    · refine hv_go C bV_hI [(84, 19), (84, 21)] [] (1, 22) [] [(29, [none, none], [(.inl (1, 1), ev_nt)], [], [])] 80 ⟨rfl, rfl⟩ (by decide +kernel) trivial ⟨?_, trivial⟩
      exact hs_iret C (i := 1) (fun ls w x _ _ _ hI hx _ => Or.inr ⟨rfl, hI⟩) hret rfl rfl rfl (by decide) rfl rfl rfl (by decide +kernel)
def kX : ek := (143, [.inr 86], [], [(84, 19), (84, 21), (84, 22), (84, 23), (84, 24), (84, 25), (84, 26), (97, 999), (98, 999), (99, 999), (100, 999), (101, 999), (102, 999)], [(some (.inl (0, 0)), []), (some (.inl (1, 1)), [])], 7, 145)
theorem rR (l : Launch) {tp : Nat → Int} {ln : Nat} {σ : Nat → Int} {cm pl : Nat} {SF SH ST : Nat → Int} {n : Nat} (hq0 : rQs σ cm SF SH ST n) (hc0 : cm ≤ pl) (hn16 : n ≤ 16) : hk_ok l tQ (bV tp ln σ cm pl SF SH ST n) (fun i _ ws => i = 0 ∨ ∃ v : (Nat → Int) × Nat × Nat × (Nat → Int) × (Nat → Int) × (Nat → Int), (rQs v.1 v.2.1 v.2.2.2.1 v.2.2.2.2.1 v.2.2.2.2.2 (n + 1) ∧ v.2.1 ≤ v.2.2.1 ∧ n + 1 ≤ 16 ∧ pl ≤ v.2.2.1) ∧ bV tp ln v.1 v.2.1 v.2.2.1 v.2.2.2.1 v.2.2.2.2.1 v.2.2.2.2.2 (n + 1) ws) kX := by
  refine hk_ok_of (o := 9) (r := (yX9_readsRule, prog_11_method_30_code, 2, some .boolean)) rfl rfl (by decide +kernel) (by decide) rfl (fun p e s m args below meth c D tys aK aV b0 ad w0 C hret => ?_)
  have half : ∀ (σ1 : Nat → Int) (cm1 : Nat) (wt : Nat → Int) (wn pl1 : Nat) (SF1 SH1 ST1 : Nat → Int), n ≤ 15 → pl ≤ pl1 → cm1 ≤ pl1 → pl1 ≤ 240 → rQs σ1 cm1 SF1 SH1 ST1 n → (∃ a : Nat, SF1 n = a ∧ mSeg σ1 a cm1) → ev_go p l e (ek_rm kX) s m args below meth c (MQ below (hk_qc D tys tQ (fun i _ ws => i = 0 ∨ ∃ v : (Nat → Int) × Nat × Nat × (Nat → Int) × (Nat → Int) × (Nat → Int), (rQs v.1 v.2.1 v.2.2.2.1 v.2.2.2.2.1 v.2.2.2.2.2 (n + 1) ∧ v.2.1 ≤ v.2.2.1 ∧ n + 1 ≤ 16 ∧ pl ≤ v.2.2.1) ∧ bV tp ln v.1 v.2.1 v.2.2.1 v.2.2.2.1 v.2.2.2.2.1 v.2.2.2.2.2 (n + 1) ws) b0 ad w0 kX true) args s 0 0 (fun q => b0 ≤ q)) D tys tQ (rV tp ln σ1 cm1 wt wn pl1 SF1 SH1 ST1 n) b0 2 ad w0 [(84, 19), (84, 21), (84, 22), (84, 23), (84, 24), (84, 25), (84, 26), (97, 999), (98, 999), (99, 999), (100, 999), (101, 999), (102, 999)] (fun _ => 0) (104, [some (.inr 86, none), none], [], [], []) := by
    intro σ1 cm1 wt wn pl1 SF1 SH1 ST1 hn hpp hc1 hpl1 hq1 hfirst
    refine ev_go_fact 84 26 (0, 15) rfl rfl (fun w hw h => by rw [h.2.2.2.2]; exact ⟨by dsimp only; omega, by dsimp only; omega⟩) ?_
    refine ev_go_fact 84 24 (0, 240) rfl rfl (fun w hw h => by rw [h.1.2.1]; exact ⟨by dsimp only; omega, by dsimp only; omega⟩) ?_
    refine hv_go C rV_hI [(84, 19), (84, 21), (84, 22), (84, 23), (84, 24), (84, 25), (84, 26), (97, 999), (98, 999), (99, 999), (100, 999), (101, 999), (102, 999)] [] (7, 145) [] [(116, [some (.inr 86, none), none], [(.inl (0, 240), (2, 84, 24, 0)), (.inl (0, 15), (2, 84, 26, 0)), (.inr 103, ev_nt)], [], [])] 80 ⟨rfl, rfl⟩ (by decide +kernel) trivial ⟨?_, trivial⟩
    refine hs_ast C (I' := rV tp ln σ1 cm1 wt wn pl1 SF1 (uN n (cm1 : Int) SH1) ST1 n) (t := (0, 16, 0, 260)) ?_ rfl rfl ?_ (by decide) (by decide) (by decide) (by decide +kernel) ?_
    · intro ls w w' i x hw hl hF hI hi ti hx tx i0 i1 hs hf
      have e : i.toInt = n := by rw [tag_f ti, hI.2.2.2.2]; omega
      have e2 : x.toInt = cm1 := by rw [tag_f tx, hI.1.2.1]; omega
      rw [e, e2] at hs
      obtain ⟨h1, h2, h3, h4⟩ := hI.2
      refine ⟨mV_sO hI.1 hs (by decide), by rw [hs.2.1 100 (by decide), h1], ?_, by rw [hs.2.1 102 (by decide), h3], by rw [hs.2.2, h4]⟩
      rw [hs.1, h2]
      rfl
    · intro ls w i hw hl hF hI hi ti
      obtain ⟨a1, a2⟩ := hi
      dsimp only at a1 a2
      exact ⟨by omega, by show i.toInt < 16; omega⟩
    · refine hv_go C rV_hI [(84, 19), (84, 21), (84, 22), (84, 23), (84, 24), (84, 25), (84, 26), (97, 999), (98, 999), (99, 999), (100, 999), (101, 999), (102, 999)] [] (7, 145) [] [(118, [some (.inr 86, none), none], [(.inr 86, ev_nt)], [], [])] 80 ⟨rfl, rfl⟩ (by decide +kernel) trivial ⟨?_, trivial⟩
      refine hs_callV C (A := []) (S := []) (j := 84) (i := 305) (mi := 157) (n := 0) (ci := 9) (E := sV SF1 (uN n (cm1 : Int) SH1) ST1 n) (rQ l (g := σ1) (fun k hk => rfl) hc1) (fun w h => h) (fun w w' hf h => sV_hI _ w w' (by decide) hf h) (by decide +kernel) rfl rfl rfl (by decide) rfl (by decide) rfl rfl rfl (by decide) (by decide) (by decide) (by decide +kernel) (fun i u x hu hq => ?_)
      match i, hu with
      | 0, hu =>
        cases hu
        have hx0 : x = 0 := by have h1 := hq.1; have h2 := hq.2; dsimp only at h1 h2; omega
        subst hx0
        refine ev_go_mono (I' := fun _ => True) (fun w h => trivial) ?_
        refine hv_go C tr_hI [(84, 19), (84, 21), (84, 22), (84, 23), (84, 24), (84, 25), (84, 26), (97, 999), (98, 999), (99, 999), (100, 999), (101, 999), (102, 999)] [] (7, 145) [] [(125, [none, none], [(.inl (0, 0), ev_nt)], [], [])] 80 ⟨rfl, rfl⟩ (by decide +kernel) trivial ⟨?_, trivial⟩
        exact hs_iret C (i := 0) (fun ls w x _ _ _ hI hx _ => Or.inl rfl) hret rfl rfl rfl (by decide) rfl rfl rfl (by decide +kernel)
      | 1, hu =>
        cases hu
        have hx0 : x = 1 := by have h1 := hq.1; have h2 := hq.2; dsimp only at h1 h2; omega
        subst hx0
        refine ev_go_mono (I' := fun ws => ∃ v : (Nat → Int) × Nat × (Nat → Int) × Nat, (mSeg v.1 cm1 v.2.1 ∧ (∀ k, k < cm1 → v.1 k = σ1 k) ∧ v.2.1 ≤ v.2.2.2 ∧ pl1 ≤ v.2.2.2) ∧ rV tp ln v.1 v.2.1 v.2.2.1 0 v.2.2.2 SF1 (uN n (cm1 : Int) SH1) ST1 n ws) (fun w h => ?_) (ev_go_exP (fun v hv => ?_))
        · rcases h.1 with h9 | ⟨v, h9, h8⟩
          · exact absurd h9 (by decide)
          · exact ⟨v, h9, h8, h.2⟩
        obtain ⟨σ2, cm2, wt2, pl2⟩ := v
        obtain ⟨hs2, hg2, hc2, hp2⟩ := hv
        dsimp only at hs2 hg2 hc2 hp2
        refine ev_go_mono (I' := rV tp ln σ2 cm2 wt2 0 pl2 SF1 (uN n (cm1 : Int) SH1) ST1 n) (fun w h => h) ?_
        refine ev_go_w (P := pl2 ≤ 240) (fun w hw h => mV_240 hw h.1) (fun hpl2 => ?_)
        refine ev_go_fact 84 26 (0, 15) rfl rfl (fun w hw h => by rw [h.2.2.2.2]; exact ⟨by dsimp only; omega, by dsimp only; omega⟩) ?_
        refine ev_go_fact 84 24 (0, 240) rfl rfl (fun w hw h => by rw [h.1.2.1]; exact ⟨by dsimp only; omega, by dsimp only; omega⟩) ?_
        refine hv_go C rV_hI [(84, 19), (84, 21), (84, 22), (84, 23), (84, 24), (84, 25), (84, 26), (97, 999), (98, 999), (99, 999), (100, 999), (101, 999), (102, 999)] [] (7, 145) [] [(138, [some (.inr 86, none), none], [(.inl (0, 240), (2, 84, 24, 0)), (.inl (0, 15), (2, 84, 26, 0)), (.inr 104, ev_nt)], [((2, 84, 26), (0, 15), none)], [])] 80 ⟨rfl, rfl⟩ (by decide +kernel) trivial ⟨?_, trivial⟩
        refine hs_ast C (I' := rV tp ln σ2 cm2 wt2 0 pl2 SF1 (uN n (cm1 : Int) SH1) (uN n (cm2 : Int) ST1) n) (t := (0, 16, 0, 260)) ?_ rfl rfl ?_ (by decide) (by decide) (by decide) (by decide +kernel) ?_
        · intro ls w w' i x hw hl hF hI hi ti hx tx i0 i1 hs hf
          have e : i.toInt = n := by rw [tag_f ti, hI.2.2.2.2]; omega
          have e2 : x.toInt = cm2 := by rw [tag_f tx, hI.1.2.1]; omega
          rw [e, e2] at hs
          obtain ⟨h1, h2, h3, h4⟩ := hI.2
          refine ⟨mV_sO hI.1 hs (by decide), by rw [hs.2.1 100 (by decide), h1], by rw [hs.2.1 101 (by decide), h2], ?_, by rw [hs.2.2, h4]⟩
          rw [hs.1, h3]
          rfl
        · intro ls w i hw hl hF hI hi ti
          obtain ⟨a1, a2⟩ := hi
          dsimp only at a1 a2
          exact ⟨by omega, by show i.toInt < 16; omega⟩
        · refine hv_go C rV_hI [(84, 19), (84, 21), (84, 22), (84, 23), (84, 24), (84, 25), (84, 26), (97, 999), (98, 999), (99, 999), (100, 999), (101, 999), (102, 999)] [] (7, 145) [] [(146, [none, none], [(.inl (1, 16), (2, 84, 26, 1)), (.inr 86, ev_nt)], [], [])] 80 ⟨rfl, rfl⟩ (by decide +kernel) trivial ⟨?_, trivial⟩
          refine hs_put C (I' := rV tp ln σ2 cm2 wt2 0 pl2 SF1 (uN n (cm1 : Int) SH1) (uN n (cm2 : Int) ST1) (n + 1)) (i := 302) (ci := 9) (f := 26) (j := 84) (b := (-2147483648, 2147483647)) ?_ (by decide +kernel) rfl (by decide) rfl rfl (by decide) (by decide) (by decide) (by decide) (by decide +kernel) ?_
          · intro ls w w' z hw hl hF hI hz tz hp hf
            have e : z.toInt = ((n + 1 : Nat) : Int) := by rw [tag_f tz, hI.2.2.2.2]; omega
            obtain ⟨h1, h2, h3, h4⟩ := hI.2
            obtain ⟨g1, g2, g3, g4, g5, g6, g7⟩ := hI.1
            exact ⟨⟨by rw [hp.2.2, g1], by rw [hp.2.1 84 24 (by decide), g2], by rw [hp.2.2, g3], by rw [hp.2.1 84 25 (by decide), g4], by rw [hp.2.1 84 19 (by decide), g5], by rw [hp.2.2, g6], by rw [hp.2.1 84 20 (by decide), g7]⟩, by rw [hp.2.2, h1], by rw [hp.2.2, h2], by rw [hp.2.2, h3], by rw [hp.1, e]⟩
          · refine hv_go C rV_hI [(84, 19), (84, 21), (84, 22), (84, 23), (84, 24), (84, 25), (84, 26), (97, 999), (98, 999), (99, 999), (100, 999), (101, 999), (102, 999)] [] (7, 145) [] [(150, [none, none], [(.inl (1, 1), ev_nt)], [], [])] 80 ⟨rfl, rfl⟩ (by decide +kernel) trivial ⟨?_, trivial⟩
            refine hs_iret C (i := 1) (fun ls w x _ _ _ hI hx _ => Or.inr ⟨(σ2, cm2, pl2, SF1, uN n (cm1 : Int) SH1, uN n (cm2 : Int) ST1), ⟨fun q hq => ?_, hc2, by omega, by show pl ≤ pl2; omega⟩, rV_bV hI⟩) hret rfl rfl rfl (by decide) rfl rfl rfl (by decide +kernel)
            dsimp only
            rcases Nat.lt_or_ge q n with h9 | h9
            · obtain ⟨a, h, b, r1, r2, r3, r4, r5, r6⟩ := hq1 q h9
              have hcc : cm1 ≤ cm2 := hs2.1
              exact ⟨a, h, b, r1, by rw [uN_n _ _ (by omega)]; exact r2, by rw [uN_n _ _ (by omega)]; exact r3, mSeg_same r4 (fun k hk => hg2 k (by have := r5.1; omega)), mSeg_same r5 (fun k hk => hg2 k (by omega)), by omega⟩
            · have e : q = n := by omega
              subst e
              obtain ⟨a, r1, r2⟩ := hfirst
              exact ⟨a, cm1, cm2, r1, by rw [uN_s], by rw [uN_s], mSeg_same r2 (fun k hk => hg2 k hk), hs2, Nat.le_refl _⟩
  refine ev_go_w (P := pl ≤ 240) (fun w hw h => mB_240 hw h.1) (fun hpl => ?_)
  by_cases hn : n ≤ 15
  · refine ev_go_fact 84 26 (0, 15) rfl rfl (fun w hw h => by rw [h.2.2.2.2]; exact ⟨by dsimp only; omega, by dsimp only; omega⟩) ?_
    refine hv_go C bV_hI [(84, 19), (84, 21), (84, 22), (84, 23), (84, 24), (84, 25), (84, 26), (97, 999), (98, 999), (99, 999), (100, 999), (101, 999), (102, 999)] [kq_184, kq_185, kq_222] (7, 145) [] [(26, [none, none], [(.inl (0, 0), ev_nt)], [], []), (63, [some (.inr 86, none), some (.inl (100, 100), none)], [(.inl (1, 240), (2, 84, 19, 1)), (.inr 86, ev_nt)], [((2, 84, 26), (0, 15), none)], []), (63, [some (.inr 86, none), some (.inl (120, 120), none)], [(.inl (1, 240), (2, 84, 19, 1)), (.inr 86, ev_nt)], [((2, 84, 26), (0, 15), none)], [])] 80 ⟨rfl, rfl⟩ (by decide +kernel) ⟨ek_upS bV_hI (fun _ _ => trivial) rfl (qk_184 l), ek_upS bV_hI (fun _ _ => trivial) rfl (qk_185 l), ek_upS bV_hI (fun _ _ => trivial) rfl (qk_222 l), trivial⟩ ⟨?_, ?_, ?_, trivial⟩
    · exact hs_iret C (i := 0) (fun ls w x _ _ _ hI hx _ => Or.inl rfl) hret rfl rfl rfl (by decide) rfl rfl rfl (by decide +kernel)
    · refine hs_put C (I' := bV tp ln σ cm (pl + 1) SF SH ST n) (i := 222) (ci := 9) (f := 19) (j := 84) (b := (0, 240)) ?_ (by decide +kernel) rfl (by decide) rfl rfl (by decide) (by decide) (by decide) (by decide) (by decide +kernel) ?_
      · intro ls w w' z hw hl hF hI hz tz hp hf
        exact ⟨mB_p19 hI.1 hp (by rw [tag_f tz, hI.1.2.2.1]; omega), sV_pO hI.2 hp (by decide)⟩
      · refine ev_go_fact 84 24 (0, 240) rfl rfl (fun w hw h => by rw [h.1.2.1]; exact ⟨by dsimp only; omega, by dsimp only; omega⟩) ?_
        refine hv_go C bV_hI [(84, 19), (84, 21), (84, 22), (84, 23), (84, 24), (84, 25), (84, 26), (97, 999), (98, 999), (99, 999), (100, 999), (101, 999), (102, 999)] [] (7, 145) [] [(78, [some (.inr 86, none), some (.inl (100, 100), none)], [(.inl (0, 240), (2, 84, 24, 0)), (.inl (0, 15), (2, 84, 26, 0)), (.inr 102, ev_nt)], [], [])] 80 ⟨rfl, rfl⟩ (by decide +kernel) trivial ⟨?_, trivial⟩
        refine hs_ast C (I' := bV tp ln σ cm (pl + 1) (uN n (cm : Int) SF) SH ST n) (t := (0, 16, 0, 260)) ?_ rfl rfl ?_ (by decide) (by decide) (by decide) (by decide +kernel) ?_
        · intro ls w w' i x hw hl hF hI hi ti hx tx i0 i1 hs hf
          have e : i.toInt = n := by rw [tag_f ti, hI.2.2.2.2]; omega
          have e2 : x.toInt = cm := by rw [tag_f tx, hI.1.2.1]; omega
          rw [e, e2] at hs
          obtain ⟨h1, h2, h3, h4⟩ := hI.2
          refine ⟨mB_sO hI.1 hs (by decide), ?_, by rw [hs.2.1 101 (by decide), h2], by rw [hs.2.1 102 (by decide), h3], by rw [hs.2.2, h4]⟩
          rw [hs.1, h1]
          rfl
        · intro ls w i hw hl hF hI hi ti
          obtain ⟨a1, a2⟩ := hi
          dsimp only at a1 a2
          exact ⟨by omega, by show i.toInt < 16; omega⟩
        · refine hv_go C bV_hI [(84, 19), (84, 21), (84, 22), (84, 23), (84, 24), (84, 25), (84, 26), (97, 999), (98, 999), (99, 999), (100, 999), (101, 999), (102, 999)] [] (7, 145) [] [(86, [some (.inr 86, none), some (.inl (100, 100), none)], [(.inl (0, 0), ev_nt), (.inr 86, ev_nt)], [], [])] 80 ⟨rfl, rfl⟩ (by decide +kernel) trivial ⟨?_, trivial⟩
          refine hs_put C (I' := fun ws => ∃ wt : Nat → Int, True ∧ rV tp ln σ cm wt 0 (pl + 1) (uN n (cm : Int) SF) SH ST n ws) (i := 253) (ci := 9) (f := 25) (j := 84) (b := (-2147483648, 2147483647)) ?_ (by decide +kernel) rfl (by decide) rfl rfl (by decide) (by decide) (by decide) (by decide) (by decide +kernel) ?_
          · intro ls w w' z hw hl hF hI hz tz hp hf
            obtain ⟨h1, h2, h3, h4, h5⟩ := hI.1
            have e : z.toInt = ((0 : Nat) : Int) := by have a1 := hz.1; have a2 := hz.2; dsimp only at a1 a2; omega
            exact ⟨gA w 98, trivial, ⟨by rw [hp.2.2, h1], by rw [hp.2.1 84 24 (by decide), h2], by rw [hp.2.2], by rw [hp.1, e], by rw [hp.2.1 84 19 (by decide), h3], by rw [hp.2.2, h4], by rw [hp.2.1 84 20 (by decide), h5]⟩, sV_pO hI.2 hp (by decide)⟩
          · refine ev_go_exP (fun wt _ => ?_)
            have hq2 : rQs σ cm (uN n (cm : Int) SF) SH ST n := fun q hq => by
              obtain ⟨a, h, b, r1, r2⟩ := hq0 q hq
              exact ⟨a, h, b, by rw [uN_n _ _ (by omega)]; exact r1, r2⟩
            refine ev_go_w (P := pl + 1 ≤ 240) (fun w hw h => mV_240 hw h.1) (fun hpl1 => ?_)
            refine hv_go C rV_hI [(84, 19), (84, 21), (84, 22), (84, 23), (84, 24), (84, 25), (84, 26), (97, 999), (98, 999), (99, 999), (100, 999), (101, 999), (102, 999)] [] (7, 145) [] [(96, [some (.inr 86, none), none], [(.inr 86, ev_nt)], [], [])] 80 ⟨rfl, rfl⟩ (by decide +kernel) trivial ⟨?_, trivial⟩
            refine hs_callV C (A := []) (S := []) (j := 84) (i := 287) (mi := 146) (n := 0) (ci := 9) (E := sV (uN n (cm : Int) SF) SH ST n) (rS l (g := σ) (sg := cm) (need := 0) (how := 0) (B := False) (N := True) (pZ_new (fun k hk => rfl) (by omega)) (by omega) (by omega)) (fun w h => h) (fun w w' hf h => sV_hI _ w w' (by decide) hf h) (by decide +kernel) rfl rfl rfl (by decide) rfl (by decide) rfl rfl rfl (by decide) (by decide) (by decide) (by decide +kernel) (fun i u x hu hq => ?_)
            match i, hu with
            | 0, hu =>
              cases hu
              have hx0 : x = 0 := by have h1 := hq.1; have h2 := hq.2; dsimp only at h1 h2; omega
              subst hx0
              refine ev_go_mono (I' := fun _ => True) (fun w h => trivial) ?_
              refine hv_go C tr_hI [(84, 19), (84, 21), (84, 22), (84, 23), (84, 24), (84, 25), (84, 26), (97, 999), (98, 999), (99, 999), (100, 999), (101, 999), (102, 999)] [] (7, 145) [] [(103, [none, none], [(.inl (0, 0), ev_nt)], [], [])] 80 ⟨rfl, rfl⟩ (by decide +kernel) trivial ⟨?_, trivial⟩
              exact hs_iret C (i := 0) (fun ls w x _ _ _ hI hx _ => Or.inl rfl) hret rfl rfl rfl (by decide) rfl rfl rfl (by decide +kernel)
            | 1, hu =>
              cases hu
              have hx0 : x = 1 := by have h1 := hq.1; have h2 := hq.2; dsimp only at h1 h2; omega
              subst hx0
              refine ev_go_mono (I' := fun ws => ∃ v : (Nat → Int) × Nat × (Nat → Int) × Nat × Nat, (pZ σ cm (0 + 1) 0 False True v.1 v.2.1 v.2.2.1 v.2.2.2.1 v.2.2.2.2 ∧ pl + 1 + 1 ≤ v.2.2.2.2) ∧ rV tp ln v.1 v.2.1 v.2.2.1 v.2.2.2.1 v.2.2.2.2 (uN n (cm : Int) SF) SH ST n ws) (fun w h => ?_) (ev_go_exP (fun v hv => ?_))
              · rcases h.1 with h9 | ⟨v, h9, h8⟩
                · exact absurd h9 (by decide)
                · exact ⟨v, h9, h8, h.2⟩
              obtain ⟨σ1, cm1, wt1, wn1, pl1⟩ := v
              obtain ⟨hz1, hp1⟩ := hv
              dsimp only at hz1 hp1
              refine ev_go_mono (I' := rV tp ln σ1 cm1 wt1 wn1 pl1 (uN n (cm : Int) SF) SH ST n) (fun w h => h) ?_
              refine ev_go_w (P := pl1 ≤ 240) (fun w hw h => mV_240 hw h.1) (fun hpl2 => ?_)
              have hb2 : (cm1 : Int) ≤ pl1 := by
                have := hz1.2.2.2.1
                have := cnt_nn (q := qN) (wt := wt1) wn1
                omega
              refine hv_go C rV_hI [(84, 19), (84, 21), (84, 22), (84, 23), (84, 24), (84, 25), (84, 26), (97, 999), (98, 999), (99, 999), (100, 999), (101, 999), (102, 999)] [] (7, 145) [] [(104, [some (.inr 86, none), none], [], [], [])] 80 ⟨rfl, rfl⟩ (by decide +kernel) trivial ⟨?_, trivial⟩
              refine half σ1 cm1 wt1 wn1 pl1 (uN n (cm : Int) SF) SH ST hn (by omega) (by omega) hpl2 (fun q hq => ?_) ⟨cm, by rw [uN_s], pZ_end hz1 (Or.inl trivial) (by omega)⟩
              obtain ⟨a, h, b, r1, r2, r3, r4, r5, r6⟩ := hq2 q hq
              have hcc : cm ≤ cm1 := hz1.2.1
              exact ⟨a, h, b, r1, r2, r3, mSeg_same r4 (fun k hk => hz1.1 k (by have := r5.1; omega)), mSeg_same r5 (fun k hk => hz1.1 k (by omega)), by omega⟩
    · refine hs_put C (I' := bV tp ln σ cm (pl + 1) SF SH ST n) (i := 222) (ci := 9) (f := 19) (j := 84) (b := (0, 240)) ?_ (by decide +kernel) rfl (by decide) rfl rfl (by decide) (by decide) (by decide) (by decide) (by decide +kernel) ?_
      · intro ls w w' z hw hl hF hI hz tz hp hf
        exact ⟨mB_p19 hI.1 hp (by rw [tag_f tz, hI.1.2.2.1]; omega), sV_pO hI.2 hp (by decide)⟩
      · refine ev_go_fact 84 24 (0, 240) rfl rfl (fun w hw h => by rw [h.1.2.1]; exact ⟨by dsimp only; omega, by dsimp only; omega⟩) ?_
        refine hv_go C bV_hI [(84, 19), (84, 21), (84, 22), (84, 23), (84, 24), (84, 25), (84, 26), (97, 999), (98, 999), (99, 999), (100, 999), (101, 999), (102, 999)] [] (7, 145) [] [(78, [some (.inr 86, none), some (.inl (120, 120), none)], [(.inl (0, 240), (2, 84, 24, 0)), (.inl (0, 15), (2, 84, 26, 0)), (.inr 102, ev_nt)], [], [])] 80 ⟨rfl, rfl⟩ (by decide +kernel) trivial ⟨?_, trivial⟩
        refine hs_ast C (I' := bV tp ln σ cm (pl + 1) (uN n (cm : Int) SF) SH ST n) (t := (0, 16, 0, 260)) ?_ rfl rfl ?_ (by decide) (by decide) (by decide) (by decide +kernel) ?_
        · intro ls w w' i x hw hl hF hI hi ti hx tx i0 i1 hs hf
          have e : i.toInt = n := by rw [tag_f ti, hI.2.2.2.2]; omega
          have e2 : x.toInt = cm := by rw [tag_f tx, hI.1.2.1]; omega
          rw [e, e2] at hs
          obtain ⟨h1, h2, h3, h4⟩ := hI.2
          refine ⟨mB_sO hI.1 hs (by decide), ?_, by rw [hs.2.1 101 (by decide), h2], by rw [hs.2.1 102 (by decide), h3], by rw [hs.2.2, h4]⟩
          rw [hs.1, h1]
          rfl
        · intro ls w i hw hl hF hI hi ti
          obtain ⟨a1, a2⟩ := hi
          dsimp only at a1 a2
          exact ⟨by omega, by show i.toInt < 16; omega⟩
        · refine hv_go C bV_hI [(84, 19), (84, 21), (84, 22), (84, 23), (84, 24), (84, 25), (84, 26), (97, 999), (98, 999), (99, 999), (100, 999), (101, 999), (102, 999)] [] (7, 145) [] [(86, [some (.inr 86, none), some (.inl (120, 120), none)], [(.inl (0, 0), ev_nt), (.inr 86, ev_nt)], [], [])] 80 ⟨rfl, rfl⟩ (by decide +kernel) trivial ⟨?_, trivial⟩
          refine hs_put C (I' := fun ws => ∃ wt : Nat → Int, True ∧ rV tp ln σ cm wt 0 (pl + 1) (uN n (cm : Int) SF) SH ST n ws) (i := 253) (ci := 9) (f := 25) (j := 84) (b := (-2147483648, 2147483647)) ?_ (by decide +kernel) rfl (by decide) rfl rfl (by decide) (by decide) (by decide) (by decide) (by decide +kernel) ?_
          · intro ls w w' z hw hl hF hI hz tz hp hf
            obtain ⟨h1, h2, h3, h4, h5⟩ := hI.1
            have e : z.toInt = ((0 : Nat) : Int) := by have a1 := hz.1; have a2 := hz.2; dsimp only at a1 a2; omega
            exact ⟨gA w 98, trivial, ⟨by rw [hp.2.2, h1], by rw [hp.2.1 84 24 (by decide), h2], by rw [hp.2.2], by rw [hp.1, e], by rw [hp.2.1 84 19 (by decide), h3], by rw [hp.2.2, h4], by rw [hp.2.1 84 20 (by decide), h5]⟩, sV_pO hI.2 hp (by decide)⟩
          · refine ev_go_exP (fun wt _ => ?_)
            have hq2 : rQs σ cm (uN n (cm : Int) SF) SH ST n := fun q hq => by
              obtain ⟨a, h, b, r1, r2⟩ := hq0 q hq
              exact ⟨a, h, b, by rw [uN_n _ _ (by omega)]; exact r1, r2⟩
            refine ev_go_w (P := pl + 1 ≤ 240) (fun w hw h => mV_240 hw h.1) (fun hpl1 => ?_)
            refine hv_go C rV_hI [(84, 19), (84, 21), (84, 22), (84, 23), (84, 24), (84, 25), (84, 26), (97, 999), (98, 999), (99, 999), (100, 999), (101, 999), (102, 999)] [] (7, 145) [] [(104, [some (.inr 86, none), none], [], [], [])] 80 ⟨rfl, rfl⟩ (by decide +kernel) trivial ⟨?_, trivial⟩
            exact half σ cm wt 0 (pl + 1) (uN n (cm : Int) SF) SH ST hn (by omega) (by omega) hpl1 hq2 ⟨cm, by rw [uN_s], Nat.le_refl _, by omega, fun _ => 0, rfl, fun k h1 h2 => by omega⟩
  · have hn : n = 16 := by omega
    refine ev_go_fact 84 26 (16, 16) rfl rfl (fun w hw h => by rw [h.2.2.2.2]; exact ⟨by dsimp only; omega, by dsimp only; omega⟩) ?_
    refine hv_go C bV_hI [(84, 19), (84, 21), (84, 22), (84, 23), (84, 24), (84, 25), (84, 26), (97, 999), (98, 999), (99, 999), (100, 999), (101, 999), (102, 999)] [kq_184, kq_185, kq_222] (7, 145) [] [(26, [none, none], [(.inl (0, 0), ev_nt)], [], []), (45, [none, none], [(.inl (0, 0), ev_nt)], [], [])] 80 ⟨rfl, rfl⟩ (by decide +kernel) ⟨ek_upS bV_hI (fun _ _ => trivial) rfl (qk_184 l), ek_upS bV_hI (fun _ _ => trivial) rfl (qk_185 l), ek_upS bV_hI (fun _ _ => trivial) rfl (qk_222 l), trivial⟩ ⟨?_, ?_, trivial⟩
    · exact hs_iret C (i := 0) (fun ls w x _ _ _ hI hx _ => Or.inl rfl) hret rfl rfl rfl (by decide) rfl rfl rfl (by decide +kernel)
    · exact hs_iret C (i := 0) (fun ls w x _ _ _ hI hx _ => Or.inl rfl) hret rfl rfl rfl (by decide) rfl rfl rfl (by decide +kernel)
