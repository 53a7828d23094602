def lP (S O : Nat → Int) (_ : Int) : Prop := lC S O
theorem iG_pC : pC lP := by
  refine ⟨fun S O n x y h h0 h1 h2 k hk hS => ?_, fun S O n k h h0 h1 h2 j hj hS => ?_⟩
  · unfold uA at *
    by_cases e : k = n.toNat
    · rw [if_pos e] at hS ⊢
      exact h2 hS
    · rw [if_neg e] at hS ⊢
      exact h k hk hS
  · unfold uA
    by_cases e : j = k.toNat
    · rw [e] at hS
      exact absurd hS h2
    · rw [if_neg e]
      exact h j hj hS
def sE : List (Nat × Nat) := [(20, 999), (21, 999), (103, 999), (105, 999), (106, 999), (107, 999), (84, 27)]
def eG (ws : va_W) : Prop := lC (gA ws 20) (gA ws 21) ∧ mC ws
theorem eG_hI : ev_hI eG sE := by
  intro W1 w w' h1 h2 h
  have a1 := gA_fr (j := 20) h2 (fun h => h1 _ h (by simp [sE]))
  have a2 := gA_fr (j := 21) h2 (fun h => h1 _ h (by simp [sE]))
  have a5 := gA_fr (j := 103) h2 (fun h => h1 _ h (by simp [sE]))
  have a6 := gA_fr (j := 105) h2 (fun h => h1 _ h (by simp [sE]))
  have a7 := gA_fr (j := 106) h2 (fun h => h1 _ h (by simp [sE]))
  have a8 := gA_fr (j := 107) h2 (fun h => h1 _ h (by simp [sE]))
  have a9 := gI_fr (j := 84) (f := 27) h2 (fun h => h1 _ h (by simp [sE]))
  unfold eG mC at *
  rw [a1, a2, a5, a6, a7, a8, a9]
  exact h
theorem iG_up {l : Launch} {κ : ek} (h : ek_ok l tQ (cP lP) κ) (hd : (ek_wr κ).all (fun q => !sE.contains q) = true) : ek_ok l tQ iG κ := by
  have h2 := ek_and (E := eG) h (fun w w' hf he => eG_hI (ek_wr κ) w w' (fun q hq hm => by
    have h1 := List.all_eq_true.mp hd q hq
    rw [List.contains_iff_mem.mpr hm] at h1
    cases h1) hf he)
  have e : (fun w => cP lP w ∧ eG w) = iG := by
    funext w
    apply propext
    exact ⟨fun h => ⟨h.2.1, h.1, h.2.2⟩, fun h => ⟨h.2.1, h.1, h.2.2⟩⟩
  rw [e] at h2
  exact h2
