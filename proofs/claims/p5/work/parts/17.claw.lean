/-- the rows of the law that is being read: steps, operands, how many -/
def sC : List (Nat × Nat) := [(61, 999), (62, 999), (57, 8)]
def cV (S O : Nat → Int) (n : Int) (w : va_W) : Prop := gA w 61 = S ∧ gA w 62 = O ∧ gI w 57 8 = n
theorem cV_hI {S O : Nat → Int} {n : Int} : ev_hI (cV S O n) sC := by
  intro W1 w w' h1 h2 h
  obtain ⟨h3, h4, h5⟩ := h
  exact ⟨(gA_fr h2 (fun h => h1 _ h (by simp [sC]))).trans h3, (gA_fr h2 (fun h => h1 _ h (by simp [sC]))).trans h4, (gI_fr h2 (fun h => h1 _ h (by simp [sC]))).trans h5⟩
def kA (xs ys : Int × Int) : ek := (29, [.inr 59, .inl xs, .inl ys], [], [(57, 8), (61, 999), (62, 999)], [(some (.inl (-1, 239)), [])], 0, 0)
def uA (n : Int) (x : Int) (f : Nat → Int) : Nat → Int := fun k => if k = n.toNat then x else f k
theorem aS_0 (l : Launch) (S O : Nat → Int) (n : Int) : hk_ok l tQ (cV S O n) (fun _ v w => (v = -1 ∧ cV S O n w) ∨ (∃ q : Int × Int, (v = n ∧ 0 ≤ n ∧ n < 240 ∧ (48 ≤ q.1 ∧ q.1 ≤ 48) ∧ ((-2147483648) ≤ q.2 ∧ q.2 ≤ 2147483647)) ∧ cV (uA n q.1 S) (uA n q.2 O) (n + 1) w)) (kA (48, 48) ((-2147483648), 2147483647)) := by
  refine hk_ok_of (o := 0) (r := (yX0_addStep, prog_2_method_13_code, 3, some .int)) rfl rfl (by decide +kernel) (by decide) rfl (fun p e s m args below meth c D tys aK aV b0 ad w0 C hret => ?_)
  refine hv_go C cV_hI [(57, 8), (61, 999), (62, 999)] [] (0, 0) [] [(11, [none, none, none], [(.inl (-1, -1), ev_nt)], [], []), (21, [some (.inr 59, none), some (.inl (48, 48), none), some (.inl ((-2147483648), 2147483647), none)], [(.inl (48, 48), (1, 1, 0, 0)), (.inl (0, 239), (2, 57, 8, 0)), (.inr 63, ev_nt)], [((2, 57, 8), (0, 239), none)], [])] 40 ⟨rfl, rfl⟩ (by decide +kernel) trivial ⟨?_, ?_, trivial⟩
  · refine hs_iret C (i := 0) (fun ls w x _ _ _ hI hx _ => Or.inl ⟨?_, hI⟩) hret rfl rfl rfl (by decide) rfl rfl rfl (by decide +kernel)
    obtain ⟨h1, h2⟩ := hx
    dsimp only at h1 h2
    omega
  · refine hs_ast C (I' := fun w => ∃ x : Int, ((0 ≤ n ∧ n < 240) ∧ (48 ≤ x ∧ x ≤ 48)) ∧ cV (uA n x S) O n w) (t := (0, 240, -2147483648, 2147483647)) ?_ rfl rfl ?_ (by decide) (by decide) (by decide) (by decide +kernel) ?_
    · intro ls w w' i x hw hl hF hI hi ti hx tx i0 i1 hs hf
      obtain ⟨h1, h2, h3⟩ := hI
      have e := tag_f ti
      have e2 : i.toInt = n := by rw [e, h3]; omega
      have i2 : i.toInt < 240 := i1
      refine ⟨x.toInt, ⟨⟨by omega, by omega⟩, hx⟩, ?_, ?_, ?_⟩
      · rw [hs.1, h1, e2]
        rfl
      · rw [hs.2.1 62 (by decide), h2]
      · rw [hs.2.2, h3]
    · intro ls w i hw hl hF hI hi ti
      obtain ⟨h1, h2⟩ := hi
      dsimp only at h1 h2
      exact ⟨by omega, by show i.toInt < 240; omega⟩
    · refine ev_go_exP (fun x hx => ?_)
      refine hv_go C cV_hI [(57, 8), (61, 999), (62, 999)] [] (0, 0) [] [(31, [some (.inr 59, none), some (.inl (48, 48), none), some (.inl ((-2147483648), 2147483647), none)], [(.inl ((-2147483648), 2147483647), (1, 2, 0, 0)), (.inl (0, 239), (2, 57, 8, 0)), (.inr 64, ev_nt)], [((2, 57, 8), (0, 239), none)], [])] 40 ⟨rfl, rfl⟩ (by decide +kernel) trivial ⟨?_, trivial⟩
      refine hs_ast C (I' := fun w => ∃ y : Int, ((-2147483648) ≤ y ∧ y ≤ 2147483647) ∧ cV (uA n x S) (uA n y O) n w) (t := (0, 240, -2147483648, 2147483647)) ?_ rfl rfl ?_ (by decide) (by decide) (by decide) (by decide +kernel) ?_
      · intro ls w w' i y hw hl hF hI hi ti hx tx i0 i1 hs hf
        obtain ⟨h1, h2, h3⟩ := hI
        have e := tag_f ti
        have e2 : i.toInt = n := by rw [e, h3]; omega
        refine ⟨y.toInt, hx, ?_, ?_, ?_⟩
        · rw [hs.2.1 61 (by decide), h1]
        · rw [hs.1, h2, e2]
          rfl
        · rw [hs.2.2, h3]
      · intro ls w i hw hl hF hI hi ti
        obtain ⟨h1, h2⟩ := hi
        dsimp only at h1 h2
        exact ⟨by omega, by show i.toInt < 240; omega⟩
      · refine ev_go_exP (fun y hy => ?_)
        refine hv_go C cV_hI [(57, 8), (61, 999), (62, 999)] [] (0, 0) [] [(39, [some (.inr 59, none), none, none], [(.inl (1, 240), (2, 57, 8, 1)), (.inr 59, ev_nt)], [], [])] 40 ⟨rfl, rfl⟩ (by decide +kernel) trivial ⟨?_, trivial⟩
        refine hs_put C (I' := cV (uA n x S) (uA n y O) (n + 1)) (i := 50) (ci := 0) (f := 8) (j := 57) (b := (0, 240)) ?_ (by decide +kernel) rfl (by decide) rfl rfl (by decide) (by decide) (by decide) (by decide) (by decide +kernel) ?_
        · intro ls w w' z hw hl hF hI hz tz hp hf
          obtain ⟨h1, h2, h3⟩ := hI
          exact ⟨by rw [hp.2.2, h1], by rw [hp.2.2, h2], by rw [hp.1, tag_f tz, h3]⟩
        · refine hv_go C cV_hI [(57, 8), (61, 999), (62, 999)] [] (0, 0) [] [(48, [none, none, none], [(.inl (0, 239), (2, 57, 8, -1))], [], [])] 40 ⟨rfl, rfl⟩ (by decide +kernel) trivial ⟨?_, trivial⟩
          refine hs_iret C (i := 0) (fun ls w v _ _ _ hI hv tv => Or.inr ⟨(x, y), ⟨?_, hx.1.1, hx.1.2, hx.2, hy⟩, hI⟩) hret rfl rfl rfl (by decide) rfl rfl rfl (by decide +kernel)
          rw [tag_f tv, hI.2.2]
          omega
theorem aS_1 (l : Launch) (S O : Nat → Int) (n : Int) : hk_ok l tQ (cV S O n) (fun _ v w => (v = -1 ∧ cV S O n w) ∨ (∃ q : Int × Int, (v = n ∧ 0 ≤ n ∧ n < 240 ∧ ((-1) ≤ q.1 ∧ q.1 ≤ 255) ∧ (0 ≤ q.2 ∧ q.2 ≤ 6)) ∧ cV (uA n q.1 S) (uA n q.2 O) (n + 1) w)) (kA ((-1), 255) (0, 6)) := by
  refine hk_ok_of (o := 0) (r := (yX0_addStep, prog_2_method_13_code, 3, some .int)) rfl rfl (by decide +kernel) (by decide) rfl (fun p e s m args below meth c D tys aK aV b0 ad w0 C hret => ?_)
  refine hv_go C cV_hI [(57, 8), (61, 999), (62, 999)] [] (0, 0) [] [(11, [none, none, none], [(.inl (-1, -1), ev_nt)], [], []), (21, [some (.inr 59, none), some (.inl ((-1), 255), none), some (.inl (0, 6), none)], [(.inl ((-1), 255), (1, 1, 0, 0)), (.inl (0, 239), (2, 57, 8, 0)), (.inr 63, ev_nt)], [((2, 57, 8), (0, 239), none)], [])] 40 ⟨rfl, rfl⟩ (by decide +kernel) trivial ⟨?_, ?_, trivial⟩
  · refine hs_iret C (i := 0) (fun ls w x _ _ _ hI hx _ => Or.inl ⟨?_, hI⟩) hret rfl rfl rfl (by decide) rfl rfl rfl (by decide +kernel)
    obtain ⟨h1, h2⟩ := hx
    dsimp only at h1 h2
    omega
  · refine hs_ast C (I' := fun w => ∃ x : Int, ((0 ≤ n ∧ n < 240) ∧ ((-1) ≤ x ∧ x ≤ 255)) ∧ cV (uA n x S) O n w) (t := (0, 240, -2147483648, 2147483647)) ?_ rfl rfl ?_ (by decide) (by decide) (by decide) (by decide +kernel) ?_
    · intro ls w w' i x hw hl hF hI hi ti hx tx i0 i1 hs hf
      obtain ⟨h1, h2, h3⟩ := hI
      have e := tag_f ti
      have e2 : i.toInt = n := by rw [e, h3]; omega
      have i2 : i.toInt < 240 := i1
      refine ⟨x.toInt, ⟨⟨by omega, by omega⟩, hx⟩, ?_, ?_, ?_⟩
      · rw [hs.1, h1, e2]
        rfl
      · rw [hs.2.1 62 (by decide), h2]
      · rw [hs.2.2, h3]
    · intro ls w i hw hl hF hI hi ti
      obtain ⟨h1, h2⟩ := hi
      dsimp only at h1 h2
      exact ⟨by omega, by show i.toInt < 240; omega⟩
    · refine ev_go_exP (fun x hx => ?_)
      refine hv_go C cV_hI [(57, 8), (61, 999), (62, 999)] [] (0, 0) [] [(31, [some (.inr 59, none), some (.inl ((-1), 255), none), some (.inl (0, 6), none)], [(.inl (0, 6), (1, 2, 0, 0)), (.inl (0, 239), (2, 57, 8, 0)), (.inr 64, ev_nt)], [((2, 57, 8), (0, 239), none)], [])] 40 ⟨rfl, rfl⟩ (by decide +kernel) trivial ⟨?_, trivial⟩
      refine hs_ast C (I' := fun w => ∃ y : Int, (0 ≤ y ∧ y ≤ 6) ∧ cV (uA n x S) (uA n y O) n w) (t := (0, 240, -2147483648, 2147483647)) ?_ rfl rfl ?_ (by decide) (by decide) (by decide) (by decide +kernel) ?_
      · intro ls w w' i y hw hl hF hI hi ti hx tx i0 i1 hs hf
        obtain ⟨h1, h2, h3⟩ := hI
        have e := tag_f ti
        have e2 : i.toInt = n := by rw [e, h3]; omega
        refine ⟨y.toInt, hx, ?_, ?_, ?_⟩
        · rw [hs.2.1 61 (by decide), h1]
        · rw [hs.1, h2, e2]
          rfl
        · rw [hs.2.2, h3]
      · intro ls w i hw hl hF hI hi ti
        obtain ⟨h1, h2⟩ := hi
        dsimp only at h1 h2
        exact ⟨by omega, by show i.toInt < 240; omega⟩
      · refine ev_go_exP (fun y hy => ?_)
        refine hv_go C cV_hI [(57, 8), (61, 999), (62, 999)] [] (0, 0) [] [(39, [some (.inr 59, none), none, none], [(.inl (1, 240), (2, 57, 8, 1)), (.inr 59, ev_nt)], [], [])] 40 ⟨rfl, rfl⟩ (by decide +kernel) trivial ⟨?_, trivial⟩
        refine hs_put C (I' := cV (uA n x S) (uA n y O) (n + 1)) (i := 50) (ci := 0) (f := 8) (j := 57) (b := (0, 240)) ?_ (by decide +kernel) rfl (by decide) rfl rfl (by decide) (by decide) (by decide) (by decide) (by decide +kernel) ?_
        · intro ls w w' z hw hl hF hI hz tz hp hf
          obtain ⟨h1, h2, h3⟩ := hI
          exact ⟨by rw [hp.2.2, h1], by rw [hp.2.2, h2], by rw [hp.1, tag_f tz, h3]⟩
        · refine hv_go C cV_hI [(57, 8), (61, 999), (62, 999)] [] (0, 0) [] [(48, [none, none, none], [(.inl (0, 239), (2, 57, 8, -1))], [], [])] 40 ⟨rfl, rfl⟩ (by decide +kernel) trivial ⟨?_, trivial⟩
          refine hs_iret C (i := 0) (fun ls w v _ _ _ hI hv tv => Or.inr ⟨(x, y), ⟨?_, hx.1.1, hx.1.2, hx.2, hy⟩, hI⟩) hret rfl rfl rfl (by decide) rfl rfl rfl (by decide +kernel)
          rw [tag_f tv, hI.2.2]
          omega
theorem aS_2 (l : Launch) (S O : Nat → Int) (n : Int) : hk_ok l tQ (cV S O n) (fun _ v w => (v = -1 ∧ cV S O n w) ∨ (∃ q : Int × Int, (v = n ∧ 0 ≤ n ∧ n < 240 ∧ (124 ≤ q.1 ∧ q.1 ≤ 124) ∧ (0 ≤ q.2 ∧ q.2 ≤ 0)) ∧ cV (uA n q.1 S) (uA n q.2 O) (n + 1) w)) (kA (124, 124) (0, 0)) := by
  refine hk_ok_of (o := 0) (r := (yX0_addStep, prog_2_method_13_code, 3, some .int)) rfl rfl (by decide +kernel) (by decide) rfl (fun p e s m args below meth c D tys aK aV b0 ad w0 C hret => ?_)
  refine hv_go C cV_hI [(57, 8), (61, 999), (62, 999)] [] (0, 0) [] [(11, [none, none, none], [(.inl (-1, -1), ev_nt)], [], []), (21, [some (.inr 59, none), some (.inl (124, 124), none), some (.inl (0, 0), none)], [(.inl (124, 124), (1, 1, 0, 0)), (.inl (0, 239), (2, 57, 8, 0)), (.inr 63, ev_nt)], [((2, 57, 8), (0, 239), none)], [])] 40 ⟨rfl, rfl⟩ (by decide +kernel) trivial ⟨?_, ?_, trivial⟩
  · refine hs_iret C (i := 0) (fun ls w x _ _ _ hI hx _ => Or.inl ⟨?_, hI⟩) hret rfl rfl rfl (by decide) rfl rfl rfl (by decide +kernel)
    obtain ⟨h1, h2⟩ := hx
    dsimp only at h1 h2
    omega
  · refine hs_ast C (I' := fun w => ∃ x : Int, ((0 ≤ n ∧ n < 240) ∧ (124 ≤ x ∧ x ≤ 124)) ∧ cV (uA n x S) O n w) (t := (0, 240, -2147483648, 2147483647)) ?_ rfl rfl ?_ (by decide) (by decide) (by decide) (by decide +kernel) ?_
    · intro ls w w' i x hw hl hF hI hi ti hx tx i0 i1 hs hf
      obtain ⟨h1, h2, h3⟩ := hI
      have e := tag_f ti
      have e2 : i.toInt = n := by rw [e, h3]; omega
      have i2 : i.toInt < 240 := i1
      refine ⟨x.toInt, ⟨⟨by omega, by omega⟩, hx⟩, ?_, ?_, ?_⟩
      · rw [hs.1, h1, e2]
        rfl
      · rw [hs.2.1 62 (by decide), h2]
      · rw [hs.2.2, h3]
    · intro ls w i hw hl hF hI hi ti
      obtain ⟨h1, h2⟩ := hi
      dsimp only at h1 h2
      exact ⟨by omega, by show i.toInt < 240; omega⟩
    · refine ev_go_exP (fun x hx => ?_)
      refine hv_go C cV_hI [(57, 8), (61, 999), (62, 999)] [] (0, 0) [] [(31, [some (.inr 59, none), some (.inl (124, 124), none), some (.inl (0, 0), none)], [(.inl (0, 0), (1, 2, 0, 0)), (.inl (0, 239), (2, 57, 8, 0)), (.inr 64, ev_nt)], [((2, 57, 8), (0, 239), none)], [])] 40 ⟨rfl, rfl⟩ (by decide +kernel) trivial ⟨?_, trivial⟩
      refine hs_ast C (I' := fun w => ∃ y : Int, (0 ≤ y ∧ y ≤ 0) ∧ cV (uA n x S) (uA n y O) n w) (t := (0, 240, -2147483648, 2147483647)) ?_ rfl rfl ?_ (by decide) (by decide) (by decide) (by decide +kernel) ?_
      · intro ls w w' i y hw hl hF hI hi ti hx tx i0 i1 hs hf
        obtain ⟨h1, h2, h3⟩ := hI
        have e := tag_f ti
        have e2 : i.toInt = n := by rw [e, h3]; omega
        refine ⟨y.toInt, hx, ?_, ?_, ?_⟩
        · rw [hs.2.1 61 (by decide), h1]
        · rw [hs.1, h2, e2]
          rfl
        · rw [hs.2.2, h3]
      · intro ls w i hw hl hF hI hi ti
        obtain ⟨h1, h2⟩ := hi
        dsimp only at h1 h2
        exact ⟨by omega, by show i.toInt < 240; omega⟩
      · refine ev_go_exP (fun y hy => ?_)
        refine hv_go C cV_hI [(57, 8), (61, 999), (62, 999)] [] (0, 0) [] [(39, [some (.inr 59, none), none, none], [(.inl (1, 240), (2, 57, 8, 1)), (.inr 59, ev_nt)], [], [])] 40 ⟨rfl, rfl⟩ (by decide +kernel) trivial ⟨?_, trivial⟩
        refine hs_put C (I' := cV (uA n x S) (uA n y O) (n + 1)) (i := 50) (ci := 0) (f := 8) (j := 57) (b := (0, 240)) ?_ (by decide +kernel) rfl (by decide) rfl rfl (by decide) (by decide) (by decide) (by decide) (by decide +kernel) ?_
        · intro ls w w' z hw hl hF hI hz tz hp hf
          obtain ⟨h1, h2, h3⟩ := hI
          exact ⟨by rw [hp.2.2, h1], by rw [hp.2.2, h2], by rw [hp.1, tag_f tz, h3]⟩
        · refine hv_go C cV_hI [(57, 8), (61, 999), (62, 999)] [] (0, 0) [] [(48, [none, none, none], [(.inl (0, 239), (2, 57, 8, -1))], [], [])] 40 ⟨rfl, rfl⟩ (by decide +kernel) trivial ⟨?_, trivial⟩
          refine hs_iret C (i := 0) (fun ls w v _ _ _ hI hv tv => Or.inr ⟨(x, y), ⟨?_, hx.1.1, hx.1.2, hx.2, hy⟩, hI⟩) hret rfl rfl rfl (by decide) rfl rfl rfl (by decide +kernel)
          rw [tag_f tv, hI.2.2]
          omega
theorem aS_3 (l : Launch) (S O : Nat → Int) (n : Int) : hk_ok l tQ (cV S O n) (fun _ v w => (v = -1 ∧ cV S O n w) ∨ (∃ q : Int × Int, (v = n ∧ 0 ≤ n ∧ n < 240 ∧ (38 ≤ q.1 ∧ q.1 ≤ 38) ∧ (0 ≤ q.2 ∧ q.2 ≤ 0)) ∧ cV (uA n q.1 S) (uA n q.2 O) (n + 1) w)) (kA (38, 38) (0, 0)) := by
  refine hk_ok_of (o := 0) (r := (yX0_addStep, prog_2_method_13_code, 3, some .int)) rfl rfl (by decide +kernel) (by decide) rfl (fun p e s m args below meth c D tys aK aV b0 ad w0 C hret => ?_)
  refine hv_go C cV_hI [(57, 8), (61, 999), (62, 999)] [] (0, 0) [] [(11, [none, none, none], [(.inl (-1, -1), ev_nt)], [], []), (21, [some (.inr 59, none), some (.inl (38, 38), none), some (.inl (0, 0), none)], [(.inl (38, 38), (1, 1, 0, 0)), (.inl (0, 239), (2, 57, 8, 0)), (.inr 63, ev_nt)], [((2, 57, 8), (0, 239), none)], [])] 40 ⟨rfl, rfl⟩ (by decide +kernel) trivial ⟨?_, ?_, trivial⟩
  · refine hs_iret C (i := 0) (fun ls w x _ _ _ hI hx _ => Or.inl ⟨?_, hI⟩) hret rfl rfl rfl (by decide) rfl rfl rfl (by decide +kernel)
    obtain ⟨h1, h2⟩ := hx
    dsimp only at h1 h2
    omega
  · refine hs_ast C (I' := fun w => ∃ x : Int, ((0 ≤ n ∧ n < 240) ∧ (38 ≤ x ∧ x ≤ 38)) ∧ cV (uA n x S) O n w) (t := (0, 240, -2147483648, 2147483647)) ?_ rfl rfl ?_ (by decide) (by decide) (by decide) (by decide +kernel) ?_
    · intro ls w w' i x hw hl hF hI hi ti hx tx i0 i1 hs hf
      obtain ⟨h1, h2, h3⟩ := hI
      have e := tag_f ti
      have e2 : i.toInt = n := by rw [e, h3]; omega
      have i2 : i.toInt < 240 := i1
      refine ⟨x.toInt, ⟨⟨by omega, by omega⟩, hx⟩, ?_, ?_, ?_⟩
      · rw [hs.1, h1, e2]
        rfl
      · rw [hs.2.1 62 (by decide), h2]
      · rw [hs.2.2, h3]
    · intro ls w i hw hl hF hI hi ti
      obtain ⟨h1, h2⟩ := hi
      dsimp only at h1 h2
      exact ⟨by omega, by show i.toInt < 240; omega⟩
    · refine ev_go_exP (fun x hx => ?_)
      refine hv_go C cV_hI [(57, 8), (61, 999), (62, 999)] [] (0, 0) [] [(31, [some (.inr 59, none), some (.inl (38, 38), none), some (.inl (0, 0), none)], [(.inl (0, 0), (1, 2, 0, 0)), (.inl (0, 239), (2, 57, 8, 0)), (.inr 64, ev_nt)], [((2, 57, 8), (0, 239), none)], [])] 40 ⟨rfl, rfl⟩ (by decide +kernel) trivial ⟨?_, trivial⟩
      refine hs_ast C (I' := fun w => ∃ y : Int, (0 ≤ y ∧ y ≤ 0) ∧ cV (uA n x S) (uA n y O) n w) (t := (0, 240, -2147483648, 2147483647)) ?_ rfl rfl ?_ (by decide) (by decide) (by decide) (by decide +kernel) ?_
      · intro ls w w' i y hw hl hF hI hi ti hx tx i0 i1 hs hf
        obtain ⟨h1, h2, h3⟩ := hI
        have e := tag_f ti
        have e2 : i.toInt = n := by rw [e, h3]; omega
        refine ⟨y.toInt, hx, ?_, ?_, ?_⟩
        · rw [hs.2.1 61 (by decide), h1]
        · rw [hs.1, h2, e2]
          rfl
        · rw [hs.2.2, h3]
      · intro ls w i hw hl hF hI hi ti
        obtain ⟨h1, h2⟩ := hi
        dsimp only at h1 h2
        exact ⟨by omega, by show i.toInt < 240; omega⟩
      · refine ev_go_exP (fun y hy => ?_)
        refine hv_go C cV_hI [(57, 8), (61, 999), (62, 999)] [] (0, 0) [] [(39, [some (.inr 59, none), none, none], [(.inl (1, 240), (2, 57, 8, 1)), (.inr 59, ev_nt)], [], [])] 40 ⟨rfl, rfl⟩ (by decide +kernel) trivial ⟨?_, trivial⟩
        refine hs_put C (I' := cV (uA n x S) (uA n y O) (n + 1)) (i := 50) (ci := 0) (f := 8) (j := 57) (b := (0, 240)) ?_ (by decide +kernel) rfl (by decide) rfl rfl (by decide) (by decide) (by decide) (by decide) (by decide +kernel) ?_
        · intro ls w w' z hw hl hF hI hz tz hp hf
          obtain ⟨h1, h2, h3⟩ := hI
          exact ⟨by rw [hp.2.2, h1], by rw [hp.2.2, h2], by rw [hp.1, tag_f tz, h3]⟩
        · refine hv_go C cV_hI [(57, 8), (61, 999), (62, 999)] [] (0, 0) [] [(48, [none, none, none], [(.inl (0, 239), (2, 57, 8, -1))], [], [])] 40 ⟨rfl, rfl⟩ (by decide +kernel) trivial ⟨?_, trivial⟩
          refine hs_iret C (i := 0) (fun ls w v _ _ _ hI hv tv => Or.inr ⟨(x, y), ⟨?_, hx.1.1, hx.1.2, hx.2, hy⟩, hI⟩) hret rfl rfl rfl (by decide) rfl rfl rfl (by decide +kernel)
          rw [tag_f tv, hI.2.2]
          omega
def kS (k : Int) : ek := (35, [.inr 59, .inl (k, k)], [], [(62, 999)], [(none, [])], 0, 0)
theorem sT (l : Launch) (S O : Nat → Int) (n k : Int) (hk : -1 ≤ k ∧ k < 240) : hk_ok l tQ (cV S O n) (fun _ _ w => (k < 0 ∧ cV S O n w) ∨ (0 ≤ k ∧ cV S (uA k n O) n w)) (kS k) := by
  refine hk_ok_of (o := 0) (r := (yX0_skipToHere, prog_2_method_14_code, 2, none)) rfl rfl (by decide +kernel) (Nat.le_refl 2) rfl (fun p e s m args below meth c D tys aK aV b0 ad w0 C hret => ?_)
  refine ev_go_gam (γ' := fun _ => k) rfl ?_
  refine ev_go_mark (i := 1) (n := 0) (q' := (-1, 239)) rfl ⟨hk.1, by have := hk.2; dsimp only; omega⟩ rfl ?_
  refine hv_go C cV_hI [(62, 999)] [] (0, 0) [] [(21, [none, some (.inl (-1, -1), some (0, 0))], [], [], []), (20, [none, some (.inl (0, 239), some (0, 0))], [(.inl (0, 240), (2, 57, 8, 0)), (.inl (0, 239), (1, 1, 0, 0)), (.inr 64, ev_nt)], [], [])] 20 (st := (0, [some (.inr 59, none), some (.inl (-1, 239), some (0, 0))], [], [], [])) ⟨rfl, rfl⟩ (by decide +kernel) trivial ⟨?_, ?_, trivial⟩
  · refine hs_vret C (i := 0) (fun ls w _ hl _ hI => Or.inl ⟨?_, hI⟩) hret rfl rfl rfl rfl (by decide +kernel)
    have h := lo_rng (i := 1) hl rfl
    dsimp only at h
    omega
  · refine hs_ast C (I' := fun w => 0 ≤ k ∧ cV S (uA k n O) n w) (t := (0, 240, -2147483648, 2147483647)) ?_ rfl rfl ?_ (by decide) (by decide) (List.mem_cons_self) (by decide +kernel) ?_
    · intro ls w w' i y hw hl hF hI hi ti hx tx i0 i1 hs hf
      obtain ⟨h1, h2, h3⟩ := hI
      obtain ⟨u, g1, g2⟩ := tag_l ti
      have g3 : u.toInt = k + 0 := lo_mark (i := 1) hl rfl g1
      have e2 : i.toInt = k := by omega
      refine ⟨by omega, by rw [hs.2.1 61 (by decide), h1], ?_, by rw [hs.2.2, h3]⟩
      rw [hs.1, h2, e2, tag_f tx, h3]
      simp only [Int.add_zero]
      rfl
    · intro ls w i hw hl hF hI hi ti
      obtain ⟨h1, h2⟩ := hi
      dsimp only at h1 h2
      exact ⟨by omega, by show i.toInt < 240; omega⟩
    · refine hs_vret C (i := 0) (fun ls w _ hl _ hI => Or.inr hI) hret rfl rfl rfl rfl (by decide +kernel)
/-- what is kept while a law is read: any P that adding steps and setting skips keep -/
def cP (P : (Nat → Int) → (Nat → Int) → Int → Prop) (w : va_W) : Prop := P (gA w 61) (gA w 62) (gI w 57 8)
def pC (P : (Nat → Int) → (Nat → Int) → Int → Prop) : Prop := (∀ S O n x y, P S O n → 0 ≤ n → n < 240 → (x = 97 → 0 ≤ y ∧ y ≤ 6) → P (uA n x S) (uA n y O) (n + 1)) ∧ (∀ S O n k, P S O n → 0 ≤ k → k < 240 → S k.toNat ≠ 97 → P S (uA k n O) n)
def cX (P : (Nat → Int) → (Nat → Int) → Int → Prop) (v : Int) : (Nat → Int) → (Nat → Int) → Int → Prop := fun S O m => P S O m ∧ (0 ≤ v → S v.toNat ≠ 97 ∧ v < m)
theorem cX_ok {P : (Nat → Int) → (Nat → Int) → Int → Prop} (h : pC P) (v : Int) : pC (cX P v) := by
  refine ⟨fun S O n x y h1 h2 h3 h4 => ⟨h.1 S O n x y h1.1 h2 h3 h4, fun hv => ?_⟩, fun S O n k h1 h2 h3 h4 => ⟨h.2 S O n k h1.1 h2 h3 h4, h1.2⟩⟩
  obtain ⟨g1, g2⟩ := h1.2 hv
  refine ⟨?_, by omega⟩
  unfold uA
  rw [if_neg (by omega)]
  exact g1
theorem cP_hI {P : (Nat → Int) → (Nat → Int) → Int → Prop} : ev_hI (cP P) sC := by
  intro W1 w w' h1 h2 h
  unfold cP at *
  rw [gA_fr h2 (fun h => h1 _ h (by simp [sC])), gA_fr h2 (fun h => h1 _ h (by simp [sC])), gI_fr h2 (fun h => h1 _ h (by simp [sC]))]
  exact h
theorem cP_ex {P : (Nat → Int) → (Nat → Int) → Int → Prop} (w : va_W) (h : cP P w) : ∃ v : (Nat → Int) × (Nat → Int) × Int, P v.1 v.2.1 v.2.2 ∧ cV v.1 v.2.1 v.2.2 w := ⟨(gA w 61, gA w 62, gI w 57 8), h, rfl, rfl, rfl⟩
theorem cP_of {P : (Nat → Int) → (Nat → Int) → Int → Prop} {S O : Nat → Int} {n : Int} {w : va_W} (h : P S O n) (hv : cV S O n w) : cP P w := by
  obtain ⟨h1, h2, h3⟩ := hv
  unfold cP
  rw [h1, h2, h3]
  exact h
theorem aK_0 (l : Launch) {P : (Nat → Int) → (Nat → Int) → Int → Prop} (hP : pC P) : ek_ok l tQ (cP P) (kA (48, 48) (-2147483648, 2147483647)) := by
  refine hk_ek (J := fun _ _ w => cP P w) (hk_exP (A := fun v : (Nat → Int) × (Nat → Int) × Int => P v.1 v.2.1 v.2.2) (fun v hv => hk_mono (aS_0 l v.1 v.2.1 v.2.2) (fun w h => h) (fun i x w h => ?_))) cP_ex (fun i x w w' _ _ h => h)
  rcases h with ⟨-, h⟩ | ⟨q, ⟨h1, h2, h3, h4, h5⟩, h⟩
  · exact cP_of hv h
  · exact cP_of (hP.1 _ _ _ _ _ hv h2 h3 (fun e => by omega)) h
theorem aK_1 (l : Launch) {P : (Nat → Int) → (Nat → Int) → Int → Prop} (hP : pC P) : ek_ok l tQ (cP P) (kA (-1, 255) (0, 6)) := by
  refine hk_ek (J := fun _ _ w => cP P w) (hk_exP (A := fun v : (Nat → Int) × (Nat → Int) × Int => P v.1 v.2.1 v.2.2) (fun v hv => hk_mono (aS_1 l v.1 v.2.1 v.2.2) (fun w h => h) (fun i x w h => ?_))) cP_ex (fun i x w w' _ _ h => h)
  rcases h with ⟨-, h⟩ | ⟨q, ⟨h1, h2, h3, h4, h5⟩, h⟩
  · exact cP_of hv h
  · exact cP_of (hP.1 _ _ _ _ _ hv h2 h3 (fun e => h5)) h
theorem aX_124 (l : Launch) {P : (Nat → Int) → (Nat → Int) → Int → Prop} (hP : pC P) : hk_ok l tQ (cP P) (fun _ v w => cP (cX P v) w) (kA (124, 124) (0, 0)) := by
  refine hk_mono (hk_exP (A := fun v : (Nat → Int) × (Nat → Int) × Int => P v.1 v.2.1 v.2.2) (J := fun _ v w => cP (cX P v) w) (fun v hv => hk_mono (aS_2 l v.1 v.2.1 v.2.2) (fun w h => h) (fun i x w h => ?_))) cP_ex (fun i x w h => h)
  rcases h with ⟨h1, h⟩ | ⟨q, ⟨h1, h2, h3, h4, h5⟩, h⟩
  · exact cP_of (P := cX P x) ⟨hv, fun h => by omega⟩ h
  · refine cP_of (P := cX P x) ⟨hP.1 _ _ _ _ _ hv h2 h3 (fun e => by omega), fun _ => ⟨?_, by omega⟩⟩ h
    unfold uA
    rw [if_pos (by rw [h1])]
    omega
theorem aX_38 (l : Launch) {P : (Nat → Int) → (Nat → Int) → Int → Prop} (hP : pC P) : hk_ok l tQ (cP P) (fun _ v w => cP (cX P v) w) (kA (38, 38) (0, 0)) := by
  refine hk_mono (hk_exP (A := fun v : (Nat → Int) × (Nat → Int) × Int => P v.1 v.2.1 v.2.2) (J := fun _ v w => cP (cX P v) w) (fun v hv => hk_mono (aS_3 l v.1 v.2.1 v.2.2) (fun w h => h) (fun i x w h => ?_))) cP_ex (fun i x w h => h)
  rcases h with ⟨h1, h⟩ | ⟨q, ⟨h1, h2, h3, h4, h5⟩, h⟩
  · exact cP_of (P := cX P x) ⟨hv, fun h => by omega⟩ h
  · refine cP_of (P := cX P x) ⟨hP.1 _ _ _ _ _ hv h2 h3 (fun e => by omega), fun _ => ⟨?_, by omega⟩⟩ h
    unfold uA
    rw [if_pos (by rw [h1])]
    omega
theorem sX (l : Launch) {P : (Nat → Int) → (Nat → Int) → Int → Prop} (hP : pC P) (x : Int) (hx : -1 ≤ x ∧ x < 240) : hk_ok l tQ (cP (cX P x)) (fun _ _ w => cP P w) (kS x) := by
  refine hk_mono (hk_exP (A := fun v : (Nat → Int) × (Nat → Int) × Int => cX P x v.1 v.2.1 v.2.2) (J := fun _ _ w => cP P w) (fun v hv => hk_mono (sT l v.1 v.2.1 v.2.2 x hx) (fun w h => h) (fun i y w h => ?_))) cP_ex (fun i x w h => h)
  rcases h with ⟨h1, h⟩ | ⟨h1, h⟩
  · exact cP_of hv.1 h
  · exact cP_of (hP.2 _ _ _ _ hv.1 h1 hx.2 (hv.2 h1).1) h
