def kN_0 : ek := (151, [.inr 86, .inl (0, 0), .inl (0, 99999)], [], [(84, 24), (97, 999)], [(none, [])], 0, 0)
theorem nt_0 (l : Launch) {tp : Nat → Int} {ln : Nat} {σ : Nat → Int} {cm : Nat} {wt : Nat → Int} {wn pl : Nat} (hc : cm < 260) : hk_ok l tQ (mV tp ln σ cm wt wn pl) (fun _ _ ws => ∃ y : Int, (0 ≤ y ∧ y ≤ 99999) ∧ mV tp ln (uN cm y σ) (cm + 1) wt wn pl ws) kN_0 := by
  refine hk_ok_of (o := 9) (r := (yX9_notes, prog_11_method_16_code, 3, none)) rfl rfl (by decide +kernel) (by decide) rfl (fun p e s m args below meth c D tys aK aV b0 ad w0 C hret => ?_)
  refine ev_go_fact 84 24 (0, 259) rfl rfl (fun w hw h => by rw [h.2.1]; exact ⟨by omega, by dsimp only; omega⟩) ?_
  refine hv_go C mV_hI [(84, 24), (97, 999)] [] (0, 0) [] [(14, [some (.inr 86, none), none, none], [(.inl (0, 99999), ev_nt), (.inl (0, 259), (2, 84, 24, 0)), (.inr 99, ev_nt)], [((2, 84, 24), (0, 259), none)], [])] 80 ⟨rfl, rfl⟩ (by decide +kernel) trivial ⟨?_, trivial⟩
  refine hs_ast C (I' := fun ws => ∃ y : Int, (0 ≤ y ∧ y ≤ 99999) ∧ mV tp ln (uN cm y σ) cm wt wn pl ws) (t := (0, 260, -2147483648, 2147483647)) ?_ rfl rfl ?_ (by decide) (by decide) (by decide) (by decide +kernel) ?_
  · intro ls w w' i x hw hl hF hI hi ti hx tx i0 i1 hs hf
    have e : i.toInt = cm := by rw [tag_f ti, hI.2.1]; omega
    refine ⟨x.toInt, hx, ?_⟩
    have h := mV_s97 hI hs
    rw [e] at h
    exact h
  · intro ls w i hw hl hF hI hi ti
    have e : i.toInt = cm := by rw [tag_f ti, hI.2.1]; omega
    exact ⟨by omega, by show i.toInt < 260; omega⟩
  · refine ev_go_exP (fun y hy => ?_)
    refine hv_go C mV_hI [(84, 24), (97, 999)] [] (0, 0) [] [(22, [none, none, none], [(.inl (1, 260), (2, 84, 24, 1)), (.inr 86, ev_nt)], [], [])] 80 ⟨rfl, rfl⟩ (by decide +kernel) trivial ⟨?_, trivial⟩
    refine hs_put C (I' := mV tp ln (uN cm y σ) (cm + 1) wt wn pl) (i := 246) (ci := 9) (f := 24) (j := 84) (b := (-2147483648, 2147483647)) ?_ (by decide +kernel) rfl (by decide) rfl rfl (by decide) (by decide) (by decide) (by decide) (by decide +kernel) ?_
    · intro ls w w' z hw hl hF hI hz tz hp hf
      exact mV_p24 hI hp (by rw [tag_f tz, hI.2.1]; omega)
    · exact hs_vret C (i := 0) (fun ls w _ _ _ hI => ⟨y, hy, hI⟩) hret rfl rfl rfl rfl (by decide +kernel)
def kN_1 : ek := (151, [.inr 86, .inl (1, 1), .inl (0, 6)], [], [(84, 24), (97, 999)], [(none, [])], 0, 0)
theorem nt_1 (l : Launch) {tp : Nat → Int} {ln : Nat} {σ : Nat → Int} {cm : Nat} {wt : Nat → Int} {wn pl : Nat} (hc : cm < 260) : hk_ok l tQ (mV tp ln σ cm wt wn pl) (fun _ _ ws => ∃ y : Int, (1048576 ≤ y ∧ y ≤ 1048582) ∧ mV tp ln (uN cm y σ) (cm + 1) wt wn pl ws) kN_1 := by
  refine hk_ok_of (o := 9) (r := (yX9_notes, prog_11_method_16_code, 3, none)) rfl rfl (by decide +kernel) (by decide) rfl (fun p e s m args below meth c D tys aK aV b0 ad w0 C hret => ?_)
  refine ev_go_fact 84 24 (0, 259) rfl rfl (fun w hw h => by rw [h.2.1]; exact ⟨by omega, by dsimp only; omega⟩) ?_
  refine hv_go C mV_hI [(84, 24), (97, 999)] [] (0, 0) [] [(14, [some (.inr 86, none), none, none], [(.inl (1048576, 1048582), ev_nt), (.inl (0, 259), (2, 84, 24, 0)), (.inr 99, ev_nt)], [((2, 84, 24), (0, 259), none)], [])] 80 ⟨rfl, rfl⟩ (by decide +kernel) trivial ⟨?_, trivial⟩
  refine hs_ast C (I' := fun ws => ∃ y : Int, (1048576 ≤ y ∧ y ≤ 1048582) ∧ mV tp ln (uN cm y σ) cm wt wn pl ws) (t := (0, 260, -2147483648, 2147483647)) ?_ rfl rfl ?_ (by decide) (by decide) (by decide) (by decide +kernel) ?_
  · intro ls w w' i x hw hl hF hI hi ti hx tx i0 i1 hs hf
    have e : i.toInt = cm := by rw [tag_f ti, hI.2.1]; omega
    refine ⟨x.toInt, hx, ?_⟩
    have h := mV_s97 hI hs
    rw [e] at h
    exact h
  · intro ls w i hw hl hF hI hi ti
    have e : i.toInt = cm := by rw [tag_f ti, hI.2.1]; omega
    exact ⟨by omega, by show i.toInt < 260; omega⟩
  · refine ev_go_exP (fun y hy => ?_)
    refine hv_go C mV_hI [(84, 24), (97, 999)] [] (0, 0) [] [(22, [none, none, none], [(.inl (1, 260), (2, 84, 24, 1)), (.inr 86, ev_nt)], [], [])] 80 ⟨rfl, rfl⟩ (by decide +kernel) trivial ⟨?_, trivial⟩
    refine hs_put C (I' := mV tp ln (uN cm y σ) (cm + 1) wt wn pl) (i := 246) (ci := 9) (f := 24) (j := 84) (b := (-2147483648, 2147483647)) ?_ (by decide +kernel) rfl (by decide) rfl rfl (by decide) (by decide) (by decide) (by decide) (by decide +kernel) ?_
    · intro ls w w' z hw hl hF hI hz tz hp hf
      exact mV_p24 hI hp (by rw [tag_f tz, hI.2.1]; omega)
    · exact hs_vret C (i := 0) (fun ls w _ _ _ hI => ⟨y, hy, hI⟩) hret rfl rfl rfl rfl (by decide +kernel)
def kN_2 : ek := (151, [.inr 86, .inl (2, 2), .inl (0, 0)], [], [(84, 24), (97, 999)], [(none, [])], 0, 0)
theorem nt_2 (l : Launch) {tp : Nat → Int} {ln : Nat} {σ : Nat → Int} {cm : Nat} {wt : Nat → Int} {wn pl : Nat} (hc : cm < 260) : hk_ok l tQ (mV tp ln σ cm wt wn pl) (fun _ _ ws => ∃ y : Int, (2097152 ≤ y ∧ y ≤ 2097152) ∧ mV tp ln (uN cm y σ) (cm + 1) wt wn pl ws) kN_2 := by
  refine hk_ok_of (o := 9) (r := (yX9_notes, prog_11_method_16_code, 3, none)) rfl rfl (by decide +kernel) (by decide) rfl (fun p e s m args below meth c D tys aK aV b0 ad w0 C hret => ?_)
  refine ev_go_fact 84 24 (0, 259) rfl rfl (fun w hw h => by rw [h.2.1]; exact ⟨by omega, by dsimp only; omega⟩) ?_
  refine hv_go C mV_hI [(84, 24), (97, 999)] [] (0, 0) [] [(14, [some (.inr 86, none), none, none], [(.inl (2097152, 2097152), ev_nt), (.inl (0, 259), (2, 84, 24, 0)), (.inr 99, ev_nt)], [((2, 84, 24), (0, 259), none)], [])] 80 ⟨rfl, rfl⟩ (by decide +kernel) trivial ⟨?_, trivial⟩
  refine hs_ast C (I' := fun ws => ∃ y : Int, (2097152 ≤ y ∧ y ≤ 2097152) ∧ mV tp ln (uN cm y σ) cm wt wn pl ws) (t := (0, 260, -2147483648, 2147483647)) ?_ rfl rfl ?_ (by decide) (by decide) (by decide) (by decide +kernel) ?_
  · intro ls w w' i x hw hl hF hI hi ti hx tx i0 i1 hs hf
    have e : i.toInt = cm := by rw [tag_f ti, hI.2.1]; omega
    refine ⟨x.toInt, hx, ?_⟩
    have h := mV_s97 hI hs
    rw [e] at h
    exact h
  · intro ls w i hw hl hF hI hi ti
    have e : i.toInt = cm := by rw [tag_f ti, hI.2.1]; omega
    exact ⟨by omega, by show i.toInt < 260; omega⟩
  · refine ev_go_exP (fun y hy => ?_)
    refine hv_go C mV_hI [(84, 24), (97, 999)] [] (0, 0) [] [(22, [none, none, none], [(.inl (1, 260), (2, 84, 24, 1)), (.inr 86, ev_nt)], [], [])] 80 ⟨rfl, rfl⟩ (by decide +kernel) trivial ⟨?_, trivial⟩
    refine hs_put C (I' := mV tp ln (uN cm y σ) (cm + 1) wt wn pl) (i := 246) (ci := 9) (f := 24) (j := 84) (b := (-2147483648, 2147483647)) ?_ (by decide +kernel) rfl (by decide) rfl rfl (by decide) (by decide) (by decide) (by decide) (by decide +kernel) ?_
    · intro ls w w' z hw hl hF hI hz tz hp hf
      exact mV_p24 hI hp (by rw [tag_f tz, hI.2.1]; omega)
    · exact hs_vret C (i := 0) (fun ls w _ _ _ hI => ⟨y, hy, hI⟩) hret rfl rfl rfl rfl (by decide +kernel)
def kN_3 : ek := (151, [.inr 86, .inl (3, 3), .inl (0, 0)], [], [(84, 24), (97, 999)], [(none, [])], 0, 0)
theorem nt_3 (l : Launch) {tp : Nat → Int} {ln : Nat} {σ : Nat → Int} {cm : Nat} {wt : Nat → Int} {wn pl : Nat} (hc : cm < 260) : hk_ok l tQ (mV tp ln σ cm wt wn pl) (fun _ _ ws => ∃ y : Int, (3145728 ≤ y ∧ y ≤ 3145728) ∧ mV tp ln (uN cm y σ) (cm + 1) wt wn pl ws) kN_3 := by
  refine hk_ok_of (o := 9) (r := (yX9_notes, prog_11_method_16_code, 3, none)) rfl rfl (by decide +kernel) (by decide) rfl (fun p e s m args below meth c D tys aK aV b0 ad w0 C hret => ?_)
  refine ev_go_fact 84 24 (0, 259) rfl rfl (fun w hw h => by rw [h.2.1]; exact ⟨by omega, by dsimp only; omega⟩) ?_
  refine hv_go C mV_hI [(84, 24), (97, 999)] [] (0, 0) [] [(14, [some (.inr 86, none), none, none], [(.inl (3145728, 3145728), ev_nt), (.inl (0, 259), (2, 84, 24, 0)), (.inr 99, ev_nt)], [((2, 84, 24), (0, 259), none)], [])] 80 ⟨rfl, rfl⟩ (by decide +kernel) trivial ⟨?_, trivial⟩
  refine hs_ast C (I' := fun ws => ∃ y : Int, (3145728 ≤ y ∧ y ≤ 3145728) ∧ mV tp ln (uN cm y σ) cm wt wn pl ws) (t := (0, 260, -2147483648, 2147483647)) ?_ rfl rfl ?_ (by decide) (by decide) (by decide) (by decide +kernel) ?_
  · intro ls w w' i x hw hl hF hI hi ti hx tx i0 i1 hs hf
    have e : i.toInt = cm := by rw [tag_f ti, hI.2.1]; omega
    refine ⟨x.toInt, hx, ?_⟩
    have h := mV_s97 hI hs
    rw [e] at h
    exact h
  · intro ls w i hw hl hF hI hi ti
    have e : i.toInt = cm := by rw [tag_f ti, hI.2.1]; omega
    exact ⟨by omega, by show i.toInt < 260; omega⟩
  · refine ev_go_exP (fun y hy => ?_)
    refine hv_go C mV_hI [(84, 24), (97, 999)] [] (0, 0) [] [(22, [none, none, none], [(.inl (1, 260), (2, 84, 24, 1)), (.inr 86, ev_nt)], [], [])] 80 ⟨rfl, rfl⟩ (by decide +kernel) trivial ⟨?_, trivial⟩
    refine hs_put C (I' := mV tp ln (uN cm y σ) (cm + 1) wt wn pl) (i := 246) (ci := 9) (f := 24) (j := 84) (b := (-2147483648, 2147483647)) ?_ (by decide +kernel) rfl (by decide) rfl rfl (by decide) (by decide) (by decide) (by decide) (by decide +kernel) ?_
    · intro ls w w' z hw hl hF hI hz tz hp hf
      exact mV_p24 hI hp (by rw [tag_f tz, hI.2.1]; omega)
    · exact hs_vret C (i := 0) (fun ls w _ _ _ hI => ⟨y, hy, hI⟩) hret rfl rfl rfl rfl (by decide +kernel)
def kN_4 : ek := (151, [.inr 86, .inl (4, 4), .inl (0, 0)], [], [(84, 24), (97, 999)], [(none, [])], 0, 0)
theorem nt_4 (l : Launch) {tp : Nat → Int} {ln : Nat} {σ : Nat → Int} {cm : Nat} {wt : Nat → Int} {wn pl : Nat} (hc : cm < 260) : hk_ok l tQ (mV tp ln σ cm wt wn pl) (fun _ _ ws => ∃ y : Int, (4194304 ≤ y ∧ y ≤ 4194304) ∧ mV tp ln (uN cm y σ) (cm + 1) wt wn pl ws) kN_4 := by
  refine hk_ok_of (o := 9) (r := (yX9_notes, prog_11_method_16_code, 3, none)) rfl rfl (by decide +kernel) (by decide) rfl (fun p e s m args below meth c D tys aK aV b0 ad w0 C hret => ?_)
  refine ev_go_fact 84 24 (0, 259) rfl rfl (fun w hw h => by rw [h.2.1]; exact ⟨by omega, by dsimp only; omega⟩) ?_
  refine hv_go C mV_hI [(84, 24), (97, 999)] [] (0, 0) [] [(14, [some (.inr 86, none), none, none], [(.inl (4194304, 4194304), ev_nt), (.inl (0, 259), (2, 84, 24, 0)), (.inr 99, ev_nt)], [((2, 84, 24), (0, 259), none)], [])] 80 ⟨rfl, rfl⟩ (by decide +kernel) trivial ⟨?_, trivial⟩
  refine hs_ast C (I' := fun ws => ∃ y : Int, (4194304 ≤ y ∧ y ≤ 4194304) ∧ mV tp ln (uN cm y σ) cm wt wn pl ws) (t := (0, 260, -2147483648, 2147483647)) ?_ rfl rfl ?_ (by decide) (by decide) (by decide) (by decide +kernel) ?_
  · intro ls w w' i x hw hl hF hI hi ti hx tx i0 i1 hs hf
    have e : i.toInt = cm := by rw [tag_f ti, hI.2.1]; omega
    refine ⟨x.toInt, hx, ?_⟩
    have h := mV_s97 hI hs
    rw [e] at h
    exact h
  · intro ls w i hw hl hF hI hi ti
    have e : i.toInt = cm := by rw [tag_f ti, hI.2.1]; omega
    exact ⟨by omega, by show i.toInt < 260; omega⟩
  · refine ev_go_exP (fun y hy => ?_)
    refine hv_go C mV_hI [(84, 24), (97, 999)] [] (0, 0) [] [(22, [none, none, none], [(.inl (1, 260), (2, 84, 24, 1)), (.inr 86, ev_nt)], [], [])] 80 ⟨rfl, rfl⟩ (by decide +kernel) trivial ⟨?_, trivial⟩
    refine hs_put C (I' := mV tp ln (uN cm y σ) (cm + 1) wt wn pl) (i := 246) (ci := 9) (f := 24) (j := 84) (b := (-2147483648, 2147483647)) ?_ (by decide +kernel) rfl (by decide) rfl rfl (by decide) (by decide) (by decide) (by decide) (by decide +kernel) ?_
    · intro ls w w' z hw hl hF hI hz tz hp hf
      exact mV_p24 hI hp (by rw [tag_f tz, hI.2.1]; omega)
    · exact hs_vret C (i := 0) (fun ls w _ _ _ hI => ⟨y, hy, hI⟩) hret rfl rfl rfl rfl (by decide +kernel)
def kN_5 : ek := (151, [.inr 86, .inl (5, 5), .inl (0, 0)], [], [(84, 24), (97, 999)], [(none, [])], 0, 0)
theorem nt_5 (l : Launch) {tp : Nat → Int} {ln : Nat} {σ : Nat → Int} {cm : Nat} {wt : Nat → Int} {wn pl : Nat} (hc : cm < 260) : hk_ok l tQ (mV tp ln σ cm wt wn pl) (fun _ _ ws => ∃ y : Int, (5242880 ≤ y ∧ y ≤ 5242880) ∧ mV tp ln (uN cm y σ) (cm + 1) wt wn pl ws) kN_5 := by
  refine hk_ok_of (o := 9) (r := (yX9_notes, prog_11_method_16_code, 3, none)) rfl rfl (by decide +kernel) (by decide) rfl (fun p e s m args below meth c D tys aK aV b0 ad w0 C hret => ?_)
  refine ev_go_fact 84 24 (0, 259) rfl rfl (fun w hw h => by rw [h.2.1]; exact ⟨by omega, by dsimp only; omega⟩) ?_
  refine hv_go C mV_hI [(84, 24), (97, 999)] [] (0, 0) [] [(14, [some (.inr 86, none), none, none], [(.inl (5242880, 5242880), ev_nt), (.inl (0, 259), (2, 84, 24, 0)), (.inr 99, ev_nt)], [((2, 84, 24), (0, 259), none)], [])] 80 ⟨rfl, rfl⟩ (by decide +kernel) trivial ⟨?_, trivial⟩
  refine hs_ast C (I' := fun ws => ∃ y : Int, (5242880 ≤ y ∧ y ≤ 5242880) ∧ mV tp ln (uN cm y σ) cm wt wn pl ws) (t := (0, 260, -2147483648, 2147483647)) ?_ rfl rfl ?_ (by decide) (by decide) (by decide) (by decide +kernel) ?_
  · intro ls w w' i x hw hl hF hI hi ti hx tx i0 i1 hs hf
    have e : i.toInt = cm := by rw [tag_f ti, hI.2.1]; omega
    refine ⟨x.toInt, hx, ?_⟩
    have h := mV_s97 hI hs
    rw [e] at h
    exact h
  · intro ls w i hw hl hF hI hi ti
    have e : i.toInt = cm := by rw [tag_f ti, hI.2.1]; omega
    exact ⟨by omega, by show i.toInt < 260; omega⟩
  · refine ev_go_exP (fun y hy => ?_)
    refine hv_go C mV_hI [(84, 24), (97, 999)] [] (0, 0) [] [(22, [none, none, none], [(.inl (1, 260), (2, 84, 24, 1)), (.inr 86, ev_nt)], [], [])] 80 ⟨rfl, rfl⟩ (by decide +kernel) trivial ⟨?_, trivial⟩
    refine hs_put C (I' := mV tp ln (uN cm y σ) (cm + 1) wt wn pl) (i := 246) (ci := 9) (f := 24) (j := 84) (b := (-2147483648, 2147483647)) ?_ (by decide +kernel) rfl (by decide) rfl rfl (by decide) (by decide) (by decide) (by decide) (by decide +kernel) ?_
    · intro ls w w' z hw hl hF hI hz tz hp hf
      exact mV_p24 hI hp (by rw [tag_f tz, hI.2.1]; omega)
    · exact hs_vret C (i := 0) (fun ls w _ _ _ hI => ⟨y, hy, hI⟩) hret rfl rfl rfl rfl (by decide +kernel)
def kN_6 : ek := (151, [.inr 86, .inl (6, 6), .inl (0, 0)], [], [(84, 24), (97, 999)], [(none, [])], 0, 0)
theorem nt_6 (l : Launch) {tp : Nat → Int} {ln : Nat} {σ : Nat → Int} {cm : Nat} {wt : Nat → Int} {wn pl : Nat} (hc : cm < 260) : hk_ok l tQ (mV tp ln σ cm wt wn pl) (fun _ _ ws => ∃ y : Int, (6291456 ≤ y ∧ y ≤ 6291456) ∧ mV tp ln (uN cm y σ) (cm + 1) wt wn pl ws) kN_6 := by
  refine hk_ok_of (o := 9) (r := (yX9_notes, prog_11_method_16_code, 3, none)) rfl rfl (by decide +kernel) (by decide) rfl (fun p e s m args below meth c D tys aK aV b0 ad w0 C hret => ?_)
  refine ev_go_fact 84 24 (0, 259) rfl rfl (fun w hw h => by rw [h.2.1]; exact ⟨by omega, by dsimp only; omega⟩) ?_
  refine hv_go C mV_hI [(84, 24), (97, 999)] [] (0, 0) [] [(14, [some (.inr 86, none), none, none], [(.inl (6291456, 6291456), ev_nt), (.inl (0, 259), (2, 84, 24, 0)), (.inr 99, ev_nt)], [((2, 84, 24), (0, 259), none)], [])] 80 ⟨rfl, rfl⟩ (by decide +kernel) trivial ⟨?_, trivial⟩
  refine hs_ast C (I' := fun ws => ∃ y : Int, (6291456 ≤ y ∧ y ≤ 6291456) ∧ mV tp ln (uN cm y σ) cm wt wn pl ws) (t := (0, 260, -2147483648, 2147483647)) ?_ rfl rfl ?_ (by decide) (by decide) (by decide) (by decide +kernel) ?_
  · intro ls w w' i x hw hl hF hI hi ti hx tx i0 i1 hs hf
    have e : i.toInt = cm := by rw [tag_f ti, hI.2.1]; omega
    refine ⟨x.toInt, hx, ?_⟩
    have h := mV_s97 hI hs
    rw [e] at h
    exact h
  · intro ls w i hw hl hF hI hi ti
    have e : i.toInt = cm := by rw [tag_f ti, hI.2.1]; omega
    exact ⟨by omega, by show i.toInt < 260; omega⟩
  · refine ev_go_exP (fun y hy => ?_)
    refine hv_go C mV_hI [(84, 24), (97, 999)] [] (0, 0) [] [(22, [none, none, none], [(.inl (1, 260), (2, 84, 24, 1)), (.inr 86, ev_nt)], [], [])] 80 ⟨rfl, rfl⟩ (by decide +kernel) trivial ⟨?_, trivial⟩
    refine hs_put C (I' := mV tp ln (uN cm y σ) (cm + 1) wt wn pl) (i := 246) (ci := 9) (f := 24) (j := 84) (b := (-2147483648, 2147483647)) ?_ (by decide +kernel) rfl (by decide) rfl rfl (by decide) (by decide) (by decide) (by decide) (by decide +kernel) ?_
    · intro ls w w' z hw hl hF hI hz tz hp hf
      exact mV_p24 hI hp (by rw [tag_f tz, hI.2.1]; omega)
    · exact hs_vret C (i := 0) (fun ls w _ _ _ hI => ⟨y, hy, hI⟩) hret rfl rfl rfl rfl (by decide +kernel)
def kN_7 : ek := (151, [.inr 86, .inl (7, 7), .inl (0, 0)], [], [(84, 24), (97, 999)], [(none, [])], 0, 0)
theorem nt_7 (l : Launch) {tp : Nat → Int} {ln : Nat} {σ : Nat → Int} {cm : Nat} {wt : Nat → Int} {wn pl : Nat} (hc : cm < 260) : hk_ok l tQ (mV tp ln σ cm wt wn pl) (fun _ _ ws => ∃ y : Int, (7340032 ≤ y ∧ y ≤ 7340032) ∧ mV tp ln (uN cm y σ) (cm + 1) wt wn pl ws) kN_7 := by
  refine hk_ok_of (o := 9) (r := (yX9_notes, prog_11_method_16_code, 3, none)) rfl rfl (by decide +kernel) (by decide) rfl (fun p e s m args below meth c D tys aK aV b0 ad w0 C hret => ?_)
  refine ev_go_fact 84 24 (0, 259) rfl rfl (fun w hw h => by rw [h.2.1]; exact ⟨by omega, by dsimp only; omega⟩) ?_
  refine hv_go C mV_hI [(84, 24), (97, 999)] [] (0, 0) [] [(14, [some (.inr 86, none), none, none], [(.inl (7340032, 7340032), ev_nt), (.inl (0, 259), (2, 84, 24, 0)), (.inr 99, ev_nt)], [((2, 84, 24), (0, 259), none)], [])] 80 ⟨rfl, rfl⟩ (by decide +kernel) trivial ⟨?_, trivial⟩
  refine hs_ast C (I' := fun ws => ∃ y : Int, (7340032 ≤ y ∧ y ≤ 7340032) ∧ mV tp ln (uN cm y σ) cm wt wn pl ws) (t := (0, 260, -2147483648, 2147483647)) ?_ rfl rfl ?_ (by decide) (by decide) (by decide) (by decide +kernel) ?_
  · intro ls w w' i x hw hl hF hI hi ti hx tx i0 i1 hs hf
    have e : i.toInt = cm := by rw [tag_f ti, hI.2.1]; omega
    refine ⟨x.toInt, hx, ?_⟩
    have h := mV_s97 hI hs
    rw [e] at h
    exact h
  · intro ls w i hw hl hF hI hi ti
    have e : i.toInt = cm := by rw [tag_f ti, hI.2.1]; omega
    exact ⟨by omega, by show i.toInt < 260; omega⟩
  · refine ev_go_exP (fun y hy => ?_)
    refine hv_go C mV_hI [(84, 24), (97, 999)] [] (0, 0) [] [(22, [none, none, none], [(.inl (1, 260), (2, 84, 24, 1)), (.inr 86, ev_nt)], [], [])] 80 ⟨rfl, rfl⟩ (by decide +kernel) trivial ⟨?_, trivial⟩
    refine hs_put C (I' := mV tp ln (uN cm y σ) (cm + 1) wt wn pl) (i := 246) (ci := 9) (f := 24) (j := 84) (b := (-2147483648, 2147483647)) ?_ (by decide +kernel) rfl (by decide) rfl rfl (by decide) (by decide) (by decide) (by decide) (by decide +kernel) ?_
    · intro ls w w' z hw hl hF hI hz tz hp hf
      exact mV_p24 hI hp (by rw [tag_f tz, hI.2.1]; omega)
    · exact hs_vret C (i := 0) (fun ls w _ _ _ hI => ⟨y, hy, hI⟩) hret rfl rfl rfl rfl (by decide +kernel)
def kN_8 : ek := (151, [.inr 86, .inl (8, 8), .inl (0, 0)], [], [(84, 24), (97, 999)], [(none, [])], 0, 0)
theorem nt_8 (l : Launch) {tp : Nat → Int} {ln : Nat} {σ : Nat → Int} {cm : Nat} {wt : Nat → Int} {wn pl : Nat} (hc : cm < 260) : hk_ok l tQ (mV tp ln σ cm wt wn pl) (fun _ _ ws => ∃ y : Int, (8388608 ≤ y ∧ y ≤ 8388608) ∧ mV tp ln (uN cm y σ) (cm + 1) wt wn pl ws) kN_8 := by
  refine hk_ok_of (o := 9) (r := (yX9_notes, prog_11_method_16_code, 3, none)) rfl rfl (by decide +kernel) (by decide) rfl (fun p e s m args below meth c D tys aK aV b0 ad w0 C hret => ?_)
  refine ev_go_fact 84 24 (0, 259) rfl rfl (fun w hw h => by rw [h.2.1]; exact ⟨by omega, by dsimp only; omega⟩) ?_
  refine hv_go C mV_hI [(84, 24), (97, 999)] [] (0, 0) [] [(14, [some (.inr 86, none), none, none], [(.inl (8388608, 8388608), ev_nt), (.inl (0, 259), (2, 84, 24, 0)), (.inr 99, ev_nt)], [((2, 84, 24), (0, 259), none)], [])] 80 ⟨rfl, rfl⟩ (by decide +kernel) trivial ⟨?_, trivial⟩
  refine hs_ast C (I' := fun ws => ∃ y : Int, (8388608 ≤ y ∧ y ≤ 8388608) ∧ mV tp ln (uN cm y σ) cm wt wn pl ws) (t := (0, 260, -2147483648, 2147483647)) ?_ rfl rfl ?_ (by decide) (by decide) (by decide) (by decide +kernel) ?_
  · intro ls w w' i x hw hl hF hI hi ti hx tx i0 i1 hs hf
    have e : i.toInt = cm := by rw [tag_f ti, hI.2.1]; omega
    refine ⟨x.toInt, hx, ?_⟩
    have h := mV_s97 hI hs
    rw [e] at h
    exact h
  · intro ls w i hw hl hF hI hi ti
    have e : i.toInt = cm := by rw [tag_f ti, hI.2.1]; omega
    exact ⟨by omega, by show i.toInt < 260; omega⟩
  · refine ev_go_exP (fun y hy => ?_)
    refine hv_go C mV_hI [(84, 24), (97, 999)] [] (0, 0) [] [(22, [none, none, none], [(.inl (1, 260), (2, 84, 24, 1)), (.inr 86, ev_nt)], [], [])] 80 ⟨rfl, rfl⟩ (by decide +kernel) trivial ⟨?_, trivial⟩
    refine hs_put C (I' := mV tp ln (uN cm y σ) (cm + 1) wt wn pl) (i := 246) (ci := 9) (f := 24) (j := 84) (b := (-2147483648, 2147483647)) ?_ (by decide +kernel) rfl (by decide) rfl rfl (by decide) (by decide) (by decide) (by decide) (by decide +kernel) ?_
    · intro ls w w' z hw hl hF hI hz tz hp hf
      exact mV_p24 hI hp (by rw [tag_f tz, hI.2.1]; omega)
    · exact hs_vret C (i := 0) (fun ls w _ _ _ hI => ⟨y, hy, hI⟩) hret rfl rfl rfl rfl (by decide +kernel)
def kN_9 : ek := (151, [.inr 86, .inl (9, 9), .inl (0, 0)], [], [(84, 24), (97, 999)], [(none, [])], 0, 0)
theorem nt_9 (l : Launch) {tp : Nat → Int} {ln : Nat} {σ : Nat → Int} {cm : Nat} {wt : Nat → Int} {wn pl : Nat} (hc : cm < 260) : hk_ok l tQ (mV tp ln σ cm wt wn pl) (fun _ _ ws => ∃ y : Int, (9437184 ≤ y ∧ y ≤ 9437184) ∧ mV tp ln (uN cm y σ) (cm + 1) wt wn pl ws) kN_9 := by
  refine hk_ok_of (o := 9) (r := (yX9_notes, prog_11_method_16_code, 3, none)) rfl rfl (by decide +kernel) (by decide) rfl (fun p e s m args below meth c D tys aK aV b0 ad w0 C hret => ?_)
  refine ev_go_fact 84 24 (0, 259) rfl rfl (fun w hw h => by rw [h.2.1]; exact ⟨by omega, by dsimp only; omega⟩) ?_
  refine hv_go C mV_hI [(84, 24), (97, 999)] [] (0, 0) [] [(14, [some (.inr 86, none), none, none], [(.inl (9437184, 9437184), ev_nt), (.inl (0, 259), (2, 84, 24, 0)), (.inr 99, ev_nt)], [((2, 84, 24), (0, 259), none)], [])] 80 ⟨rfl, rfl⟩ (by decide +kernel) trivial ⟨?_, trivial⟩
  refine hs_ast C (I' := fun ws => ∃ y : Int, (9437184 ≤ y ∧ y ≤ 9437184) ∧ mV tp ln (uN cm y σ) cm wt wn pl ws) (t := (0, 260, -2147483648, 2147483647)) ?_ rfl rfl ?_ (by decide) (by decide) (by decide) (by decide +kernel) ?_
  · intro ls w w' i x hw hl hF hI hi ti hx tx i0 i1 hs hf
    have e : i.toInt = cm := by rw [tag_f ti, hI.2.1]; omega
    refine ⟨x.toInt, hx, ?_⟩
    have h := mV_s97 hI hs
    rw [e] at h
    exact h
  · intro ls w i hw hl hF hI hi ti
    have e : i.toInt = cm := by rw [tag_f ti, hI.2.1]; omega
    exact ⟨by omega, by show i.toInt < 260; omega⟩
  · refine ev_go_exP (fun y hy => ?_)
    refine hv_go C mV_hI [(84, 24), (97, 999)] [] (0, 0) [] [(22, [none, none, none], [(.inl (1, 260), (2, 84, 24, 1)), (.inr 86, ev_nt)], [], [])] 80 ⟨rfl, rfl⟩ (by decide +kernel) trivial ⟨?_, trivial⟩
    refine hs_put C (I' := mV tp ln (uN cm y σ) (cm + 1) wt wn pl) (i := 246) (ci := 9) (f := 24) (j := 84) (b := (-2147483648, 2147483647)) ?_ (by decide +kernel) rfl (by decide) rfl rfl (by decide) (by decide) (by decide) (by decide) (by decide +kernel) ?_
    · intro ls w w' z hw hl hF hI hz tz hp hf
      exact mV_p24 hI hp (by rw [tag_f tz, hI.2.1]; omega)
    · exact hs_vret C (i := 0) (fun ls w _ _ _ hI => ⟨y, hy, hI⟩) hret rfl rfl rfl rfl (by decide +kernel)
def kN_10 : ek := (151, [.inr 86, .inl (10, 10), .inl (0, 0)], [], [(84, 24), (97, 999)], [(none, [])], 0, 0)
theorem nt_10 (l : Launch) {tp : Nat → Int} {ln : Nat} {σ : Nat → Int} {cm : Nat} {wt : Nat → Int} {wn pl : Nat} (hc : cm < 260) : hk_ok l tQ (mV tp ln σ cm wt wn pl) (fun _ _ ws => ∃ y : Int, (10485760 ≤ y ∧ y ≤ 10485760) ∧ mV tp ln (uN cm y σ) (cm + 1) wt wn pl ws) kN_10 := by
  refine hk_ok_of (o := 9) (r := (yX9_notes, prog_11_method_16_code, 3, none)) rfl rfl (by decide +kernel) (by decide) rfl (fun p e s m args below meth c D tys aK aV b0 ad w0 C hret => ?_)
  refine ev_go_fact 84 24 (0, 259) rfl rfl (fun w hw h => by rw [h.2.1]; exact ⟨by omega, by dsimp only; omega⟩) ?_
  refine hv_go C mV_hI [(84, 24), (97, 999)] [] (0, 0) [] [(14, [some (.inr 86, none), none, none], [(.inl (10485760, 10485760), ev_nt), (.inl (0, 259), (2, 84, 24, 0)), (.inr 99, ev_nt)], [((2, 84, 24), (0, 259), none)], [])] 80 ⟨rfl, rfl⟩ (by decide +kernel) trivial ⟨?_, trivial⟩
  refine hs_ast C (I' := fun ws => ∃ y : Int, (10485760 ≤ y ∧ y ≤ 10485760) ∧ mV tp ln (uN cm y σ) cm wt wn pl ws) (t := (0, 260, -2147483648, 2147483647)) ?_ rfl rfl ?_ (by decide) (by decide) (by decide) (by decide +kernel) ?_
  · intro ls w w' i x hw hl hF hI hi ti hx tx i0 i1 hs hf
    have e : i.toInt = cm := by rw [tag_f ti, hI.2.1]; omega
    refine ⟨x.toInt, hx, ?_⟩
    have h := mV_s97 hI hs
    rw [e] at h
    exact h
  · intro ls w i hw hl hF hI hi ti
    have e : i.toInt = cm := by rw [tag_f ti, hI.2.1]; omega
    exact ⟨by omega, by show i.toInt < 260; omega⟩
  · refine ev_go_exP (fun y hy => ?_)
    refine hv_go C mV_hI [(84, 24), (97, 999)] [] (0, 0) [] [(22, [none, none, none], [(.inl (1, 260), (2, 84, 24, 1)), (.inr 86, ev_nt)], [], [])] 80 ⟨rfl, rfl⟩ (by decide +kernel) trivial ⟨?_, trivial⟩
    refine hs_put C (I' := mV tp ln (uN cm y σ) (cm + 1) wt wn pl) (i := 246) (ci := 9) (f := 24) (j := 84) (b := (-2147483648, 2147483647)) ?_ (by decide +kernel) rfl (by decide) rfl rfl (by decide) (by decide) (by decide) (by decide) (by decide +kernel) ?_
    · intro ls w w' z hw hl hF hI hz tz hp hf
      exact mV_p24 hI hp (by rw [tag_f tz, hI.2.1]; omega)
    · exact hs_vret C (i := 0) (fun ls w _ _ _ hI => ⟨y, hy, hI⟩) hret rfl rfl rfl rfl (by decide +kernel)
def kN_11 : ek := (151, [.inr 86, .inl (11, 11), .inl (0, 0)], [], [(84, 24), (97, 999)], [(none, [])], 0, 0)
theorem nt_11 (l : Launch) {tp : Nat → Int} {ln : Nat} {σ : Nat → Int} {cm : Nat} {wt : Nat → Int} {wn pl : Nat} (hc : cm < 260) : hk_ok l tQ (mV tp ln σ cm wt wn pl) (fun _ _ ws => ∃ y : Int, (11534336 ≤ y ∧ y ≤ 11534336) ∧ mV tp ln (uN cm y σ) (cm + 1) wt wn pl ws) kN_11 := by
  refine hk_ok_of (o := 9) (r := (yX9_notes, prog_11_method_16_code, 3, none)) rfl rfl (by decide +kernel) (by decide) rfl (fun p e s m args below meth c D tys aK aV b0 ad w0 C hret => ?_)
  refine ev_go_fact 84 24 (0, 259) rfl rfl (fun w hw h => by rw [h.2.1]; exact ⟨by omega, by dsimp only; omega⟩) ?_
  refine hv_go C mV_hI [(84, 24), (97, 999)] [] (0, 0) [] [(14, [some (.inr 86, none), none, none], [(.inl (11534336, 11534336), ev_nt), (.inl (0, 259), (2, 84, 24, 0)), (.inr 99, ev_nt)], [((2, 84, 24), (0, 259), none)], [])] 80 ⟨rfl, rfl⟩ (by decide +kernel) trivial ⟨?_, trivial⟩
  refine hs_ast C (I' := fun ws => ∃ y : Int, (11534336 ≤ y ∧ y ≤ 11534336) ∧ mV tp ln (uN cm y σ) cm wt wn pl ws) (t := (0, 260, -2147483648, 2147483647)) ?_ rfl rfl ?_ (by decide) (by decide) (by decide) (by decide +kernel) ?_
  · intro ls w w' i x hw hl hF hI hi ti hx tx i0 i1 hs hf
    have e : i.toInt = cm := by rw [tag_f ti, hI.2.1]; omega
    refine ⟨x.toInt, hx, ?_⟩
    have h := mV_s97 hI hs
    rw [e] at h
    exact h
  · intro ls w i hw hl hF hI hi ti
    have e : i.toInt = cm := by rw [tag_f ti, hI.2.1]; omega
    exact ⟨by omega, by show i.toInt < 260; omega⟩
  · refine ev_go_exP (fun y hy => ?_)
    refine hv_go C mV_hI [(84, 24), (97, 999)] [] (0, 0) [] [(22, [none, none, none], [(.inl (1, 260), (2, 84, 24, 1)), (.inr 86, ev_nt)], [], [])] 80 ⟨rfl, rfl⟩ (by decide +kernel) trivial ⟨?_, trivial⟩
    refine hs_put C (I' := mV tp ln (uN cm y σ) (cm + 1) wt wn pl) (i := 246) (ci := 9) (f := 24) (j := 84) (b := (-2147483648, 2147483647)) ?_ (by decide +kernel) rfl (by decide) rfl rfl (by decide) (by decide) (by decide) (by decide) (by decide +kernel) ?_
    · intro ls w w' z hw hl hF hI hz tz hp hf
      exact mV_p24 hI hp (by rw [tag_f tz, hI.2.1]; omega)
    · exact hs_vret C (i := 0) (fun ls w _ _ _ hI => ⟨y, hy, hI⟩) hret rfl rfl rfl rfl (by decide +kernel)
def kN_12 : ek := (151, [.inr 86, .inl (12, 12), .inl (0, 0)], [], [(84, 24), (97, 999)], [(none, [])], 0, 0)
theorem nt_12 (l : Launch) {tp : Nat → Int} {ln : Nat} {σ : Nat → Int} {cm : Nat} {wt : Nat → Int} {wn pl : Nat} (hc : cm < 260) : hk_ok l tQ (mV tp ln σ cm wt wn pl) (fun _ _ ws => ∃ y : Int, (12582912 ≤ y ∧ y ≤ 12582912) ∧ mV tp ln (uN cm y σ) (cm + 1) wt wn pl ws) kN_12 := by
  refine hk_ok_of (o := 9) (r := (yX9_notes, prog_11_method_16_code, 3, none)) rfl rfl (by decide +kernel) (by decide) rfl (fun p e s m args below meth c D tys aK aV b0 ad w0 C hret => ?_)
  refine ev_go_fact 84 24 (0, 259) rfl rfl (fun w hw h => by rw [h.2.1]; exact ⟨by omega, by dsimp only; omega⟩) ?_
  refine hv_go C mV_hI [(84, 24), (97, 999)] [] (0, 0) [] [(14, [some (.inr 86, none), none, none], [(.inl (12582912, 12582912), ev_nt), (.inl (0, 259), (2, 84, 24, 0)), (.inr 99, ev_nt)], [((2, 84, 24), (0, 259), none)], [])] 80 ⟨rfl, rfl⟩ (by decide +kernel) trivial ⟨?_, trivial⟩
  refine hs_ast C (I' := fun ws => ∃ y : Int, (12582912 ≤ y ∧ y ≤ 12582912) ∧ mV tp ln (uN cm y σ) cm wt wn pl ws) (t := (0, 260, -2147483648, 2147483647)) ?_ rfl rfl ?_ (by decide) (by decide) (by decide) (by decide +kernel) ?_
  · intro ls w w' i x hw hl hF hI hi ti hx tx i0 i1 hs hf
    have e : i.toInt = cm := by rw [tag_f ti, hI.2.1]; omega
    refine ⟨x.toInt, hx, ?_⟩
    have h := mV_s97 hI hs
    rw [e] at h
    exact h
  · intro ls w i hw hl hF hI hi ti
    have e : i.toInt = cm := by rw [tag_f ti, hI.2.1]; omega
    exact ⟨by omega, by show i.toInt < 260; omega⟩
  · refine ev_go_exP (fun y hy => ?_)
    refine hv_go C mV_hI [(84, 24), (97, 999)] [] (0, 0) [] [(22, [none, none, none], [(.inl (1, 260), (2, 84, 24, 1)), (.inr 86, ev_nt)], [], [])] 80 ⟨rfl, rfl⟩ (by decide +kernel) trivial ⟨?_, trivial⟩
    refine hs_put C (I' := mV tp ln (uN cm y σ) (cm + 1) wt wn pl) (i := 246) (ci := 9) (f := 24) (j := 84) (b := (-2147483648, 2147483647)) ?_ (by decide +kernel) rfl (by decide) rfl rfl (by decide) (by decide) (by decide) (by decide) (by decide +kernel) ?_
    · intro ls w w' z hw hl hF hI hz tz hp hf
      exact mV_p24 hI hp (by rw [tag_f tz, hI.2.1]; omega)
    · exact hs_vret C (i := 0) (fun ls w _ _ _ hI => ⟨y, hy, hI⟩) hret rfl rfl rfl rfl (by decide +kernel)
def kW (t : Int) : ek := (155, [.inr 86], [], [], [(some (.inl (t, t)), [])], 0, 0)
theorem wT (l : Launch) {tp : Nat → Int} {ln : Nat} {σ : Nat → Int} {cm : Nat} {wt : Nat → Int} {wn pl : Nat} (t : Int) (ht : (wn = 0 ∧ t = -1) ∨ (1 ≤ wn ∧ wn ≤ 260 ∧ 0 ≤ wt (wn - 1) ∧ t = wt (wn - 1) / 1048576)) : ek_ok l tQ (mV tp ln σ cm wt wn pl) (kW t) := by
  refine hk_ek (J := fun _ _ ws => mV tp ln σ cm wt wn pl ws) (I' := mV tp ln σ cm wt wn pl) ?_ (fun w h => h) (fun i x w w' _ _ h => h)
  refine hk_ok_of (o := 9) (r := (yX9_waitTop, prog_11_method_18_code, 1, some .int)) rfl rfl (by decide +kernel) (Nat.le_refl 1) rfl (fun p e s m args below meth c D tys aK aV b0 ad w0 C hret => ?_)
  refine ev_go_fact 84 25 (0, 260) rfl rfl (fun w hw h => by rw [h.2.2.2.1]; exact ⟨by omega, by dsimp only; omega⟩) ?_
  refine hv_go C mV_hI [] [] (0, 0) [] [(25, [none], [(.inl ((-1), (-1)), ev_nt)], [((2, 84, 25), (0, 0), none)], []), (21, [none], [(.inl (0, 259), (2, 84, 25, -1)), (.inr 100, ev_nt)], [((2, 84, 25), (1, 260), none)], [])] 80 (st := (0, [some (.inr 86, none)], [], [((2, 84, 25), (0, 260), none)], [])) ⟨rfl, rfl⟩ (by decide +kernel) trivial ⟨?_, ?_, trivial⟩
  · refine ev_go_all (P := wn = 0) (fun ls w hw hl hF hI => ?_) (fun h0 => ?_)
    · have h := (fact_f (hF _ List.mem_cons_self)).2
      rw [hI.2.2.2.1] at h
      dsimp only at h
      omega
    · have e : t = -1 := by omega
      subst e
      exact hs_iret C (i := 0) (fun ls w x _ _ _ hI hx _ => hI) hret rfl rfl rfl (by decide) rfl rfl rfl (by decide +kernel)
  · refine ev_go_all (P := 1 ≤ wn) (fun ls w hw hl hF hI => ?_) (fun h0 => ?_)
    · have h := (fact_f (hF _ List.mem_cons_self)).1
      rw [hI.2.2.2.1] at h
      dsimp only at h
      omega
    · have h1 : wn ≤ 260 ∧ 0 ≤ wt (wn - 1) ∧ t = wt (wn - 1) / 1048576 := by
        rcases ht with ht | ht
        · omega
        · exact ht.2
      refine hs_ald C (I' := mV tp ln σ cm wt wn pl) (b := (wt (wn - 1), wt (wn - 1))) (t := (0, 260, -2147483648, 2147483647)) ?_ rfl rfl ?_ (by decide +kernel) ?_
      · intro ls w i x hw hl hF hI hi ti i0 i1 hx hb
        have e : i.toInt = (wn : Int) - 1 := by rw [tag_f ti, hI.2.2.2.1]; omega
        have e2 : i.toInt.toNat = wn - 1 := by omega
        rw [hI.2.2.1, e2] at hx
        exact ⟨hI, by show wt (wn - 1) ≤ x.toInt; omega, by show x.toInt ≤ wt (wn - 1); omega⟩
      · intro ls w i hw hl hF hI hi ti
        have e : i.toInt = (wn : Int) - 1 := by rw [tag_f ti, hI.2.2.2.1]; omega
        exact ⟨by omega, by show i.toInt < 260; omega⟩
      · refine ev_op_ok C mV_hI (K := []) (rm := (0, 0)) (fun _ h => absurd h List.not_mem_nil) ⟨rfl, rfl⟩ (op := .ldc 249) (len := 2) (by decide +kernel) rfl (fun st hst => ?_)
        rw [List.mem_singleton.mp hst]
        refine ev_op_ok C mV_hI (K := []) (rm := (0, 0)) (fun _ h => absurd h List.not_mem_nil) ⟨rfl, rfl⟩ (op := .idiv) (len := 1) (by decide +kernel) rfl (fun st hst => ?_)
        rw [List.mem_singleton.mp hst]
        have e : (wt (wn - 1)).tdiv 1048576 = t := by rw [h1.2.2]; exact Int.tdiv_eq_ediv_of_nonneg h1.2.1
        refine hs_iret C (i := 0) (fun ls w x _ _ _ hI hx _ => hI) hret rfl rfl rfl ?_ rfl rfl rfl (by decide +kernel)
        show (decide (t ≤ (wt (wn - 1)).tdiv 1048576) && decide ((wt (wn - 1)).tdiv 1048576 ≤ t)) = true
        rw [e]
        simp
def kO_10 : ek := (148, [.inr 86, .inl (10, 10)], [((2, 84, 19), (0, 239), none)], [(84, 19), (84, 21), (84, 23), (84, 25), (98, 999)], [(some (.inl (0, 0)), []), (some (.inl (1, 1)), [])], 1, 22)
theorem op_10 (l : Launch) {tp : Nat → Int} {ln : Nat} {σ : Nat → Int} {cm : Nat} {wt : Nat → Int} {wn pl : Nat} (hw : wn < 260) : hk_ok l tQ (mV tp ln σ cm wt wn pl) (fun i _ ws => i = 0 ∨ mV tp ln σ cm (uN wn 10485760 wt) (wn + 1) (pl + 1) ws) kO_10 := by
  refine hk_ok_of (o := 9) (r := (yX9_opens, prog_11_method_17_code, 2, some .boolean)) rfl rfl (by decide +kernel) (by decide) rfl (fun p e s m args below meth c D tys aK aV b0 ad w0 C hret => ?_)
  refine ev_go_fact 84 25 (0, 259) rfl rfl (fun w hw h => by rw [h.2.2.2.1]; exact ⟨by omega, by dsimp only; omega⟩) ?_
  refine hv_go C mV_hI [(84, 19), (84, 21), (84, 23), (84, 25), (98, 999)] [kq_3000] (1, 22) [] [(18, [none, none], [(.inl (0, 0), ev_nt)], [], []), (41, [some (.inr 86, none), none], [(.inl (10485760, 10485760), ev_nt), (.inl (0, 259), (2, 84, 25, 0)), (.inr 100, ev_nt)], [((2, 84, 19), (0, 239), none), ((2, 84, 25), (0, 259), none)], [])] 80 ⟨rfl, rfl⟩ (by decide +kernel) ⟨ek_upS mV_hI (fun _ _ => trivial) rfl (qk_3000 l), trivial⟩ ⟨?_, ?_, trivial⟩
  · exact hs_iret C (i := 0) (fun ls w x _ _ _ hI hx _ => Or.inl rfl) hret rfl rfl rfl (by decide) rfl rfl rfl (by decide +kernel)
  · refine hs_ast C (I' := mV tp ln σ cm (uN wn 10485760 wt) wn pl) (t := (0, 260, -2147483648, 2147483647)) ?_ rfl rfl ?_ (by decide) (by decide) (by decide) (by decide +kernel) ?_
    · intro ls w w' i x hw hl hF hI hi ti hx tx i0 i1 hs hf
      have e : i.toInt = wn := by rw [tag_f ti, hI.2.2.2.1]; omega
      have e2 : x.toInt = 10485760 := by have h1 := hx.1; have h2 := hx.2; dsimp only at h1 h2; omega
      have h := mV_s98 hI hs
      rw [e, e2] at h
      exact h
    · intro ls w i hw hl hF hI hi ti
      have e : i.toInt = wn := by rw [tag_f ti, hI.2.2.2.1]; omega
      exact ⟨by omega, by show i.toInt < 260; omega⟩
    · refine hv_go C mV_hI [(84, 19), (84, 21), (84, 23), (84, 25), (98, 999)] [] (1, 22) [] [(49, [some (.inr 86, none), none], [(.inl (1, 260), (2, 84, 25, 1)), (.inr 86, ev_nt)], [((2, 84, 19), (0, 239), none)], [])] 80 ⟨rfl, rfl⟩ (by decide +kernel) trivial ⟨?_, trivial⟩
      refine hs_put C (I' := mV tp ln σ cm (uN wn 10485760 wt) (wn + 1) pl) (i := 253) (ci := 9) (f := 25) (j := 84) (b := (-2147483648, 2147483647)) ?_ (by decide +kernel) rfl (by decide) rfl rfl (by decide) (by decide) (by decide) (by decide) (by decide +kernel) ?_
      · intro ls w w' z hw hl hF hI hz tz hp hf
        exact mV_p25 hI hp (by rw [tag_f tz, hI.2.2.2.1]; omega)
      · refine hv_go C mV_hI [(84, 19), (84, 21), (84, 23), (84, 25), (98, 999)] [] (1, 22) [] [(59, [none, none], [(.inl (1, 240), (2, 84, 19, 1)), (.inr 86, ev_nt)], [], [])] 80 ⟨rfl, rfl⟩ (by decide +kernel) trivial ⟨?_, trivial⟩
        refine hs_put C (I' := mV tp ln σ cm (uN wn 10485760 wt) (wn + 1) (pl + 1)) (i := 222) (ci := 9) (f := 19) (j := 84) (b := (0, 240)) ?_ (by decide +kernel) rfl (by decide) rfl rfl (by decide) (by decide) (by decide) (by decide) (by decide +kernel) ?_
        · intro ls w w' z hw hl hF hI hz tz hp hf
          exact mV_p19 hI hp (by rw [tag_f tz, hI.2.2.2.2.1]; omega)
        · refine hv_go C mV_hI [(84, 19), (84, 21), (84, 23), (84, 25), (98, 999)] [] (1, 22) [] [(63, [none, none], [(.inl (1, 1), ev_nt)], [], [])] 80 ⟨rfl, rfl⟩ (by decide +kernel) trivial ⟨?_, trivial⟩
          exact hs_iret C (i := 1) (fun ls w x _ _ _ hI hx _ => Or.inr hI) hret rfl rfl rfl (by decide) rfl rfl rfl (by decide +kernel)
def kO_13 : ek := (148, [.inr 86, .inl (13, 13)], [((2, 84, 19), (0, 239), none)], [(84, 19), (84, 21), (84, 23), (84, 25), (98, 999)], [(some (.inl (0, 0)), []), (some (.inl (1, 1)), [])], 1, 22)
theorem op_13 (l : Launch) {tp : Nat → Int} {ln : Nat} {σ : Nat → Int} {cm : Nat} {wt : Nat → Int} {wn pl : Nat} (hw : wn < 260) : hk_ok l tQ (mV tp ln σ cm wt wn pl) (fun i _ ws => i = 0 ∨ mV tp ln σ cm (uN wn 13631488 wt) (wn + 1) (pl + 1) ws) kO_13 := by
  refine hk_ok_of (o := 9) (r := (yX9_opens, prog_11_method_17_code, 2, some .boolean)) rfl rfl (by decide +kernel) (by decide) rfl (fun p e s m args below meth c D tys aK aV b0 ad w0 C hret => ?_)
  refine ev_go_fact 84 25 (0, 259) rfl rfl (fun w hw h => by rw [h.2.2.2.1]; exact ⟨by omega, by dsimp only; omega⟩) ?_
  refine hv_go C mV_hI [(84, 19), (84, 21), (84, 23), (84, 25), (98, 999)] [kq_3000] (1, 22) [] [(18, [none, none], [(.inl (0, 0), ev_nt)], [], []), (41, [some (.inr 86, none), none], [(.inl (13631488, 13631488), ev_nt), (.inl (0, 259), (2, 84, 25, 0)), (.inr 100, ev_nt)], [((2, 84, 19), (0, 239), none), ((2, 84, 25), (0, 259), none)], [])] 80 ⟨rfl, rfl⟩ (by decide +kernel) ⟨ek_upS mV_hI (fun _ _ => trivial) rfl (qk_3000 l), trivial⟩ ⟨?_, ?_, trivial⟩
  · exact hs_iret C (i := 0) (fun ls w x _ _ _ hI hx _ => Or.inl rfl) hret rfl rfl rfl (by decide) rfl rfl rfl (by decide +kernel)
  · refine hs_ast C (I' := mV tp ln σ cm (uN wn 13631488 wt) wn pl) (t := (0, 260, -2147483648, 2147483647)) ?_ rfl rfl ?_ (by decide) (by decide) (by decide) (by decide +kernel) ?_
    · intro ls w w' i x hw hl hF hI hi ti hx tx i0 i1 hs hf
      have e : i.toInt = wn := by rw [tag_f ti, hI.2.2.2.1]; omega
      have e2 : x.toInt = 13631488 := by have h1 := hx.1; have h2 := hx.2; dsimp only at h1 h2; omega
      have h := mV_s98 hI hs
      rw [e, e2] at h
      exact h
    · intro ls w i hw hl hF hI hi ti
      have e : i.toInt = wn := by rw [tag_f ti, hI.2.2.2.1]; omega
      exact ⟨by omega, by show i.toInt < 260; omega⟩
    · refine hv_go C mV_hI [(84, 19), (84, 21), (84, 23), (84, 25), (98, 999)] [] (1, 22) [] [(49, [some (.inr 86, none), none], [(.inl (1, 260), (2, 84, 25, 1)), (.inr 86, ev_nt)], [((2, 84, 19), (0, 239), none)], [])] 80 ⟨rfl, rfl⟩ (by decide +kernel) trivial ⟨?_, trivial⟩
      refine hs_put C (I' := mV tp ln σ cm (uN wn 13631488 wt) (wn + 1) pl) (i := 253) (ci := 9) (f := 25) (j := 84) (b := (-2147483648, 2147483647)) ?_ (by decide +kernel) rfl (by decide) rfl rfl (by decide) (by decide) (by decide) (by decide) (by decide +kernel) ?_
      · intro ls w w' z hw hl hF hI hz tz hp hf
        exact mV_p25 hI hp (by rw [tag_f tz, hI.2.2.2.1]; omega)
      · refine hv_go C mV_hI [(84, 19), (84, 21), (84, 23), (84, 25), (98, 999)] [] (1, 22) [] [(59, [none, none], [(.inl (1, 240), (2, 84, 19, 1)), (.inr 86, ev_nt)], [], [])] 80 ⟨rfl, rfl⟩ (by decide +kernel) trivial ⟨?_, trivial⟩
        refine hs_put C (I' := mV tp ln σ cm (uN wn 13631488 wt) (wn + 1) (pl + 1)) (i := 222) (ci := 9) (f := 19) (j := 84) (b := (0, 240)) ?_ (by decide +kernel) rfl (by decide) rfl rfl (by decide) (by decide) (by decide) (by decide) (by decide +kernel) ?_
        · intro ls w w' z hw hl hF hI hz tz hp hf
          exact mV_p19 hI hp (by rw [tag_f tz, hI.2.2.2.2.1]; omega)
        · refine hv_go C mV_hI [(84, 19), (84, 21), (84, 23), (84, 25), (98, 999)] [] (1, 22) [] [(63, [none, none], [(.inl (1, 1), ev_nt)], [], [])] 80 ⟨rfl, rfl⟩ (by decide +kernel) trivial ⟨?_, trivial⟩
          exact hs_iret C (i := 1) (fun ls w x _ _ _ hI hx _ => Or.inr hI) hret rfl rfl rfl (by decide) rfl rfl rfl (by decide +kernel)
def kO_14 : ek := (148, [.inr 86, .inl (14, 14)], [((2, 84, 19), (0, 239), none)], [(84, 19), (84, 21), (84, 23), (84, 25), (98, 999)], [(some (.inl (0, 0)), []), (some (.inl (1, 1)), [])], 1, 22)
theorem op_14 (l : Launch) {tp : Nat → Int} {ln : Nat} {σ : Nat → Int} {cm : Nat} {wt : Nat → Int} {wn pl : Nat} (hw : wn < 260) : hk_ok l tQ (mV tp ln σ cm wt wn pl) (fun i _ ws => i = 0 ∨ mV tp ln σ cm (uN wn 14680064 wt) (wn + 1) (pl + 1) ws) kO_14 := by
  refine hk_ok_of (o := 9) (r := (yX9_opens, prog_11_method_17_code, 2, some .boolean)) rfl rfl (by decide +kernel) (by decide) rfl (fun p e s m args below meth c D tys aK aV b0 ad w0 C hret => ?_)
  refine ev_go_fact 84 25 (0, 259) rfl rfl (fun w hw h => by rw [h.2.2.2.1]; exact ⟨by omega, by dsimp only; omega⟩) ?_
  refine hv_go C mV_hI [(84, 19), (84, 21), (84, 23), (84, 25), (98, 999)] [kq_3000] (1, 22) [] [(18, [none, none], [(.inl (0, 0), ev_nt)], [], []), (41, [some (.inr 86, none), none], [(.inl (14680064, 14680064), ev_nt), (.inl (0, 259), (2, 84, 25, 0)), (.inr 100, ev_nt)], [((2, 84, 19), (0, 239), none), ((2, 84, 25), (0, 259), none)], [])] 80 ⟨rfl, rfl⟩ (by decide +kernel) ⟨ek_upS mV_hI (fun _ _ => trivial) rfl (qk_3000 l), trivial⟩ ⟨?_, ?_, trivial⟩
  · exact hs_iret C (i := 0) (fun ls w x _ _ _ hI hx _ => Or.inl rfl) hret rfl rfl rfl (by decide) rfl rfl rfl (by decide +kernel)
  · refine hs_ast C (I' := mV tp ln σ cm (uN wn 14680064 wt) wn pl) (t := (0, 260, -2147483648, 2147483647)) ?_ rfl rfl ?_ (by decide) (by decide) (by decide) (by decide +kernel) ?_
    · intro ls w w' i x hw hl hF hI hi ti hx tx i0 i1 hs hf
      have e : i.toInt = wn := by rw [tag_f ti, hI.2.2.2.1]; omega
      have e2 : x.toInt = 14680064 := by have h1 := hx.1; have h2 := hx.2; dsimp only at h1 h2; omega
      have h := mV_s98 hI hs
      rw [e, e2] at h
      exact h
    · intro ls w i hw hl hF hI hi ti
      have e : i.toInt = wn := by rw [tag_f ti, hI.2.2.2.1]; omega
      exact ⟨by omega, by show i.toInt < 260; omega⟩
    · refine hv_go C mV_hI [(84, 19), (84, 21), (84, 23), (84, 25), (98, 999)] [] (1, 22) [] [(49, [some (.inr 86, none), none], [(.inl (1, 260), (2, 84, 25, 1)), (.inr 86, ev_nt)], [((2, 84, 19), (0, 239), none)], [])] 80 ⟨rfl, rfl⟩ (by decide +kernel) trivial ⟨?_, trivial⟩
      refine hs_put C (I' := mV tp ln σ cm (uN wn 14680064 wt) (wn + 1) pl) (i := 253) (ci := 9) (f := 25) (j := 84) (b := (-2147483648, 2147483647)) ?_ (by decide +kernel) rfl (by decide) rfl rfl (by decide) (by decide) (by decide) (by decide) (by decide +kernel) ?_
      · intro ls w w' z hw hl hF hI hz tz hp hf
        exact mV_p25 hI hp (by rw [tag_f tz, hI.2.2.2.1]; omega)
      · refine hv_go C mV_hI [(84, 19), (84, 21), (84, 23), (84, 25), (98, 999)] [] (1, 22) [] [(59, [none, none], [(.inl (1, 240), (2, 84, 19, 1)), (.inr 86, ev_nt)], [], [])] 80 ⟨rfl, rfl⟩ (by decide +kernel) trivial ⟨?_, trivial⟩
        refine hs_put C (I' := mV tp ln σ cm (uN wn 14680064 wt) (wn + 1) (pl + 1)) (i := 222) (ci := 9) (f := 19) (j := 84) (b := (0, 240)) ?_ (by decide +kernel) rfl (by decide) rfl rfl (by decide) (by decide) (by decide) (by decide) (by decide +kernel) ?_
        · intro ls w w' z hw hl hF hI hz tz hp hf
          exact mV_p19 hI hp (by rw [tag_f tz, hI.2.2.2.2.1]; omega)
        · refine hv_go C mV_hI [(84, 19), (84, 21), (84, 23), (84, 25), (98, 999)] [] (1, 22) [] [(63, [none, none], [(.inl (1, 1), ev_nt)], [], [])] 80 ⟨rfl, rfl⟩ (by decide +kernel) trivial ⟨?_, trivial⟩
          exact hs_iret C (i := 1) (fun ls w x _ _ _ hI hx _ => Or.inr hI) hret rfl rfl rfl (by decide) rfl rfl rfl (by decide +kernel)
