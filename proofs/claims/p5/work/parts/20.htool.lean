theorem gI_rng {tys : List (ClassId × FieldType)} {T : en_T} {ad : Nat → Nat} {w : va_W} {j f ci : Nat} {fs : List en_V} {b : Int × Int} (hw : ev_w tys T ad w) (hj : T[j]? = some (.inr (ci, fs))) (hf : fs[f]? = some (.inl b)) : (b.1 ≤ gI w j f ∧ gI w j f ≤ b.2) ∧ ∀ ls : Array Slot, ∃ x : Int32, ev_loc ls w (2, j, f) x ∧ x.toInt = gI w j f := by
  obtain ⟨e0, g1, vs, rfl, g2⟩ := hw.2 j _ hj
  obtain ⟨v, g3, z, rfl, g4⟩ := en_vs_get g2 hf
  rw [gI_eq g1 g3]
  exact ⟨g4, fun ls => ⟨z, ⟨_, _, _, g1, g3⟩, rfl⟩⟩
theorem gA_rng {tys : List (ClassId × FieldType)} {T : en_T} {ad : Nat → Nat} {w : va_W} {j : Nat} {t : Nat × Nat × Int × Int} (hw : ev_w tys T ad w) (hj : T[j]? = some (.inl t)) (h3 : t.1 ≠ 3) : ∀ k, k < t.2.1 → t.2.2.1 ≤ gA w j k ∧ gA w j k ≤ t.2.2.2 := by
  obtain ⟨e0, g1, ge⟩ := hw.2 j _ hj
  unfold ev_c at ge
  dsimp only at ge
  rw [if_neg h3] at ge
  obtain ⟨cA, f, rfl, g2, g3⟩ := ge
  intro k hk
  rw [gA_eq g1]
  exact g3 k hk
section HVT
variable {p : Program} {l : Launch} {e : Env} {R : Room} {s : State} {m : MethodId} {args : Array Value} {below : List Frame} {meth : Method} {c : Code} {Q : State → Prop} {cc : ByteArray} {D : va_G} {tys : List (ClassId × FieldType)} {T : en_T} {I I' : va_W → Prop} {aK aV b0 nL o : Nat} {ad : Nat → Nat} {w0 : va_W} {Wr : List (Nat × Nat)} {γ : Nat → Int} {pc : Nat} {L : List ev_l} {S : List ev_s} {FS : List ev_f} {RS : List ev_r}
/-- what is known of a field, as a fact -/
theorem ev_go_fact (j f : Nat) (b : Int × Int) {ci : Nat} {fs : List en_V} {b9 : Int × Int} (hj : T[j]? = some (.inr (ci, fs))) (hf : fs[f]? = some (.inl b9)) (h : ∀ w, ev_w tys T ad w → I w → b.1 ≤ gI w j f ∧ gI w j f ≤ b.2) (k : ev_go p l e R s m args below meth c Q D tys T I b0 nL ad w0 Wr γ (pc, L, S, ((2, j, f), b, none) :: FS, RS)) : ev_go p l e R s m args below meth c Q D tys T I b0 nL ad w0 Wr γ (pc, L, S, FS, RS) := by
  intro H locs ls stk ws ha
  dsimp only at ha
  obtain ⟨hz, hl, hs, hF, hR, hw, hI, hr⟩ := ha
  refine k H locs ls stk ws ⟨hz, hl, hs, fun g hg => ?_, hR, hw, hI, hr⟩
  rcases List.mem_cons.mp hg with rfl | hg
  · obtain ⟨x, h1, h2⟩ := (gI_rng hw hj hf).2 ls
    have h3 := h ws hw hI
    exact ⟨x, h1, ⟨by rw [h2]; exact h3.1, by rw [h2]; exact h3.2⟩, trivial⟩
  · exact hF g hg
/-- a marked local, known better -/
theorem ev_go_lset {i n : Nat} {d : Int} {q q' : Int × Int} (hi : L[i]? = some (some (.inl q, some (n, d)))) (hq : q'.1 ≤ γ n + d ∧ γ n + d ≤ q'.2) (k : ev_go p l e R s m args below meth c Q D tys T I b0 nL ad w0 Wr γ (pc, L.set i (some (.inl q', some (n, d))), S, FS, RS)) : ev_go p l e R s m args below meth c Q D tys T I b0 nL ad w0 Wr γ (pc, L, S, FS, RS) := by
  intro H locs ls stk ws ha
  dsimp only at ha
  obtain ⟨⟨z1, z2, z3⟩, hl, hs, hF, hR, hw, hI, hr⟩ := ha
  refine k H locs ls stk ws ⟨⟨z1, z2, by dsimp only; rw [List.length_set]; exact z3⟩, fun j u hj => ?_, hs, hF, hR, hw, hI, hr⟩
  by_cases hji : j = i
  · subst hji
    dsimp only at hj
    rw [List.getElem?_set_self (List.getElem?_eq_some_iff.mp hi).1] at hj
    cases hj
    obtain ⟨x, g1, ⟨z, rfl, g2⟩, y, e1, g3⟩ := hl j _ hi
    cases e1
    exact ⟨_, g1, ⟨z, rfl, by rw [g3]; exact hq.1, by rw [g3]; exact hq.2⟩, z, rfl, g3⟩
  · dsimp only at hj
    rw [List.getElem?_set_ne (Ne.symm hji)] at hj
    exact hl j u hj
/-- branches whose outcome is known -/
theorem hs_icmp (C : ev_cx p s m args meth c cc nL o D tys aK aV b0) {cd : Jvm.ClassFile.Cond} {off : Int} {q r : Int × Int} {tq tr : ev_t} (a b : Int) (hv : ∀ (ls : Array Slot) (w : va_W) (x y : Int32), ev_w tys T ad w → ev_lo T.length ad γ L ls → (∀ f ∈ FS, ev_fact γ ls w f) → I w → en_in q x → ev_tag ls w tq (.int x) → en_in r y → ev_tag ls w tr (.int y) → x.toInt = a ∧ y.toInt = b) (ht : decide (0 ≤ (pc : Int) + off) = true) (hd : decode cc pc = .ok (.if_icmp cd off, 3))
    (kt : ev_cd cd a b → ev_go p l e R s m args below meth c Q D tys T I b0 nL ad w0 Wr γ (((pc : Int) + off).toNat, L, S, FS, RS)) (kf : ¬ ev_cd cd a b → ev_go p l e R s m args below meth c Q D tys T I b0 nL ad w0 Wr γ (pc + 3, L, S, FS, RS)) : ev_go p l e R s m args below meth c Q D tys T I b0 nL ad w0 Wr γ (pc, L, (.inl r, tr) :: (.inl q, tq) :: S, FS, RS) := by
  intro H locs ls stk ws h
  dsimp only at h
  obtain ⟨h0, hl, hs, hF, hR, hw, hI, hr⟩ := h
  obtain ⟨y0, ys, rfl, ⟨y, rfl, hy⟩, ty, hs1⟩ := ev_stk_cons hs
  obtain ⟨x0, zs, rfl, ⟨x, rfl, hx⟩, tx, hs2⟩ := ev_stk_cons hs1
  obtain ⟨ea, eb⟩ := hv ls ws x y hw hl hF hI hx tx hy ty
  subst ea
  subst eb
  have kt : ev_cd cd x.toInt y.toInt → W p l e R s m args below meth c H locs 0 0 Q (F0 m ((pc : Int) + off).toNat ls zs) := fun hc => kt hc H locs ls zs ws ⟨h0, hl, hs2, hF, hR, hw, hI, hr⟩
  have kf : ¬ ev_cd cd x.toInt y.toInt → W p l e R s m args below meth c H locs 0 0 Q (F0 m (pc + 3) ls zs) := fun hc => kf hc H locs ls zs ws ⟨h0, hl, hs2, hF, hR, hw, hI, hr⟩
  cases cd
  · exact lv_icmp_eq C.1 C.2.1 hd (en_tgt ht) (fun h => kt ((fa_eq _ _).mp h)) (fun h => kf (fun h2 => h ((fa_eq _ _).mpr h2)))
  · exact lv_icmp_ne C.1 C.2.1 hd (en_tgt ht) (fun h => kt (fun h2 => h ((fa_eq _ _).mpr h2))) (fun h => kf (fun h2 => h2 ((fa_eq _ _).mp h)))
  · exact lv_icmp_lt C.1 C.2.1 hd (en_tgt ht) (fun h => kt ((fa_lt _ _).mp h)) (fun h => kf (fun h2 => h ((fa_lt _ _).mpr h2)))
  · exact lv_icmp_ge C.1 C.2.1 hd (en_tgt ht) (fun h => kt ((fa_le _ _).mp h)) (fun h => kf (fun h2 => h ((fa_le _ _).mpr h2)))
  · exact lv_icmp_gt C.1 C.2.1 hd (en_tgt ht) (fun h => kt ((fa_lt _ _).mp h)) (fun h => kf (fun h2 => h ((fa_lt _ _).mpr h2)))
  · exact lv_icmp_le C.1 C.2.1 hd (en_tgt ht) (fun h => kt ((fa_le _ _).mp h)) (fun h => kf (fun h2 => h ((fa_le _ _).mpr h2)))
end HVT
theorem fact_f {γ : Nat → Int} {ls : Array Slot} {w : va_W} {j f : Nat} {b : Int × Int} {g : Option (Nat × Int)} (h : ev_fact γ ls w ((2, j, f), b, g)) : b.1 ≤ gI w j f ∧ gI w j f ≤ b.2 := by
  obtain ⟨x, h1, h2, -⟩ := h
  rw [← gI_loc h1]
  exact h2
section HVU
variable {p : Program} {l : Launch} {e : Env} {R : Room} {s : State} {m : MethodId} {args : Array Value} {below : List Frame} {meth : Method} {c : Code} {Q : State → Prop} {cc : ByteArray} {D : va_G} {tys : List (ClassId × FieldType)} {T : en_T} {I : va_W → Prop} {aK aV b0 nL o : Nat} {ad : Nat → Nat} {w0 : va_W} {Wr : List (Nat × Nat)} {γ : Nat → Int} {pc : Nat} {L : List ev_l} {S : List ev_s} {FS : List ev_f} {RS : List ev_r}
theorem ev_go_all {P : Prop} (h : ∀ (ls : Array Slot) (w : va_W), ev_w tys T ad w → ev_lo T.length ad γ L ls → (∀ f ∈ FS, ev_fact γ ls w f) → I w → P) (k : P → ev_go p l e R s m args below meth c Q D tys T I b0 nL ad w0 Wr γ (pc, L, S, FS, RS)) : ev_go p l e R s m args below meth c Q D tys T I b0 nL ad w0 Wr γ (pc, L, S, FS, RS) := by
  intro H locs ls stk ws ha
  exact k (h ls ws ha.2.2.2.2.2.1 ha.2.1 ha.2.2.2.1 ha.2.2.2.2.2.2.1) H locs ls stk ws ha
/-- the rest of a division, just so -/
theorem hs_rem (C : ev_cx p s m args meth c cc nL o D tys aK aV b0) {v d : Int} {tq tr : ev_t} (hd0 : 0 < d) (hd : decode cc pc = .ok (.irem, 1)) (k : ev_go p l e R s m args below meth c Q D tys T I b0 nL ad w0 Wr γ (pc + 1, L, (.inl (v.tmod d, v.tmod d), ev_nt) :: S, FS, RS)) : ev_go p l e R s m args below meth c Q D tys T I b0 nL ad w0 Wr γ (pc, L, (.inl (d, d), tr) :: (.inl (v, v), tq) :: S, FS, RS) := by
  intro H locs ls stk ws h
  dsimp only at h
  obtain ⟨h0, hl, hs, hr⟩ := h
  obtain ⟨y0, ys, rfl, ⟨y, rfl, hy⟩, ty, hs1⟩ := ev_stk_cons hs
  obtain ⟨x0, zs, rfl, ⟨x, rfl, hx⟩, tx, hs2⟩ := ev_stk_cons hs1
  have e1 : y.toInt = d := by have h1 := hy.1; have h2 := hy.2; dsimp only at h1 h2; omega
  have e2 : x.toInt = v := by have h1 := hx.1; have h2 := hx.2; dsimp only at h1 h2; omega
  have hn : ¬ y = 0 := fun h => by rw [h] at e1; have : (0 : Int32).toInt = 0 := rfl; omega
  refine lv_irem C.1 C.2.1 hd hn (k H locs ls (.int (x - x / y * y) :: zs) ws ⟨h0, hl, ⟨⟨⟨_, rfl, ?_⟩, ev_tag0⟩, hs2⟩, hr⟩)
  have e3 := fb_tm (x := x) (y := y) (by omega)
  rw [e1, e2] at e3
  exact ⟨by dsimp only; omega, by dsimp only; omega⟩
end HVU
/-- the reference's reader: the text, its length; codes, how many; those that wait, how many; the place -/
def sM : List (Nat × Nat) := [(97, 999), (84, 24), (98, 999), (84, 25), (84, 19), (96, 999), (84, 20)]
def mV (tp : Nat → Int) (ln : Nat) (σ : Nat → Int) (c : Nat) (wt : Nat → Int) (w p : Nat) (ws : va_W) : Prop := gA ws 97 = σ ∧ gI ws 84 24 = (c : Int) ∧ gA ws 98 = wt ∧ gI ws 84 25 = (w : Int) ∧ gI ws 84 19 = (p : Int) ∧ gA ws 96 = tp ∧ gI ws 84 20 = (ln : Int)
section MV
variable {tp : Nat → Int} {ln : Nat} {σ : Nat → Int} {c : Nat} {wt : Nat → Int} {w p : Nat} {ws ws' : va_W}
theorem mV_hI : ev_hI (mV tp ln σ c wt w p) sM := by
  intro W1 w w' h1 h2 h
  obtain ⟨h3, h4, h5, h6, h7, h8, h9⟩ := h
  exact ⟨(gA_fr h2 (fun h => h1 _ h (by simp [sM]))).trans h3, (gI_fr h2 (fun h => h1 _ h (by simp [sM]))).trans h4, (gA_fr h2 (fun h => h1 _ h (by simp [sM]))).trans h5, (gI_fr h2 (fun h => h1 _ h (by simp [sM]))).trans h6, (gI_fr h2 (fun h => h1 _ h (by simp [sM]))).trans h7, (gA_fr h2 (fun h => h1 _ h (by simp [sM]))).trans h8, (gI_fr h2 (fun h => h1 _ h (by simp [sM]))).trans h9⟩
theorem mV_s97 {i : Nat} {x : Int} (h : mV tp ln σ c wt w p ws) (hs : gS 97 i x ws ws') : mV tp ln (uN i x σ) c wt w p ws' := by
  obtain ⟨h1, h2, h3, h4, h5, h6, h7⟩ := h
  refine ⟨?_, by rw [hs.2.2, h2], by rw [hs.2.1 98 (by decide), h3], by rw [hs.2.2, h4], by rw [hs.2.2, h5], by rw [hs.2.1 96 (by decide), h6], by rw [hs.2.2, h7]⟩
  rw [hs.1, h1]
  rfl
theorem mV_s98 {i : Nat} {x : Int} (h : mV tp ln σ c wt w p ws) (hs : gS 98 i x ws ws') : mV tp ln σ c (uN i x wt) w p ws' := by
  obtain ⟨h1, h2, h3, h4, h5, h6, h7⟩ := h
  refine ⟨by rw [hs.2.1 97 (by decide), h1], by rw [hs.2.2, h2], ?_, by rw [hs.2.2, h4], by rw [hs.2.2, h5], by rw [hs.2.1 96 (by decide), h6], by rw [hs.2.2, h7]⟩
  rw [hs.1, h3]
  rfl
theorem mV_p24 {x : Int} {c' : Nat} (h : mV tp ln σ c wt w p ws) (hp : gP 84 24 x ws ws') (hx : x = c') : mV tp ln σ c' wt w p ws' := by
  obtain ⟨h1, h2, h3, h4, h5, h6, h7⟩ := h
  exact ⟨by rw [hp.2.2, h1], by rw [hp.1, hx], by rw [hp.2.2, h3], by rw [hp.2.1 84 25 (by decide), h4], by rw [hp.2.1 84 19 (by decide), h5], by rw [hp.2.2, h6], by rw [hp.2.1 84 20 (by decide), h7]⟩
theorem mV_p25 {x : Int} {w' : Nat} (h : mV tp ln σ c wt w p ws) (hp : gP 84 25 x ws ws') (hx : x = w') : mV tp ln σ c wt w' p ws' := by
  obtain ⟨h1, h2, h3, h4, h5, h6, h7⟩ := h
  exact ⟨by rw [hp.2.2, h1], by rw [hp.2.1 84 24 (by decide), h2], by rw [hp.2.2, h3], by rw [hp.1, hx], by rw [hp.2.1 84 19 (by decide), h5], by rw [hp.2.2, h6], by rw [hp.2.1 84 20 (by decide), h7]⟩
theorem mV_p19 {x : Int} {p' : Nat} (h : mV tp ln σ c wt w p ws) (hp : gP 84 19 x ws ws') (hx : x = p') : mV tp ln σ c wt w p' ws' := by
  obtain ⟨h1, h2, h3, h4, h5, h6, h7⟩ := h
  exact ⟨by rw [hp.2.2, h1], by rw [hp.2.1 84 24 (by decide), h2], by rw [hp.2.2, h3], by rw [hp.2.1 84 25 (by decide), h4], by rw [hp.1, hx], by rw [hp.2.2, h6], by rw [hp.2.1 84 20 (by decide), h7]⟩
theorem mV_240 {tys : List (ClassId × FieldType)} {ad : Nat → Nat} (hw : ev_w tys tQ ad ws) (h : mV tp ln σ c wt w p ws) : p ≤ 240 := by
  have h1 := (gI_rng (j := 84) (f := 19) hw rfl rfl).1.2
  rw [h.2.2.2.2.1] at h1
  dsimp only at h1
  omega
end MV
section HVD
variable {p : Program} {l : Launch} {e : Env} {R : Room} {s : State} {m : MethodId} {args : Array Value} {below : List Frame} {meth : Method} {c : Code} {Q : State → Prop} {cc : ByteArray} {D : va_G} {tys : List (ClassId × FieldType)} {T : en_T} {I I' : va_W → Prop} {aK aV b0 nL o : Nat} {ad : Nat → Nat} {w0 : va_W} {Wr : List (Nat × Nat)} {γ : Nat → Int} {pc : Nat} {L : List ev_l} {S : List ev_s} {FS : List ev_f} {RS : List ev_r}
theorem ev_go_drop (i : Nat) (k : ev_go p l e R s m args below meth c Q D tys T I b0 nL ad w0 Wr γ (pc, L.set i none, S, FS, RS)) : ev_go p l e R s m args below meth c Q D tys T I b0 nL ad w0 Wr γ (pc, L, S, FS, RS) := by
  intro H locs ls stk ws ha
  dsimp only at ha
  obtain ⟨⟨z1, z2, z3⟩, hl, hr⟩ := ha
  refine k H locs ls stk ws ⟨⟨z1, z2, by dsimp only; rw [List.length_set]; exact z3⟩, fun j u hj => ?_, hr⟩
  dsimp only at hj
  by_cases hji : j = i
  · subst hji
    rcases Nat.lt_or_ge j L.length with h | h
    · rw [List.getElem?_set_self h] at hj
      cases hj
    · rw [List.getElem?_eq_none_iff.mpr (by rw [List.length_set]; exact h)] at hj
      cases hj
  · rw [List.getElem?_set_ne (Ne.symm hji)] at hj
    exact hl j u hj
/-- a read of a row of bytes, with what is read -/
theorem hs_bald (C : ev_cx p s m args meth c cc nL o D tys aK aV b0) {j : Nat} {t : Nat × Nat × Int × Int} {q b : Int × Int} {tq ta : ev_t} (hstep : ∀ (ls : Array Slot) (w : va_W) (i x : Int32), ev_w tys T ad w → ev_lo T.length ad γ L ls → (∀ f ∈ FS, ev_fact γ ls w f) → I w → en_in q i → ev_tag ls w tq (.int i) → 0 ≤ i.toInt → i.toInt < t.2.1 → x.toInt = gA w j i.toInt.toNat → en_in t.2.2 x → I' w ∧ en_in b x) (ht : T[j]? = some (.inl t)) (h3 : t.1 = 2)
    (hq : ∀ (ls : Array Slot) (w : va_W) (i : Int32), ev_w tys T ad w → ev_lo T.length ad γ L ls → (∀ f ∈ FS, ev_fact γ ls w f) → I w → en_in q i → ev_tag ls w tq (.int i) → 0 ≤ i.toInt ∧ i.toInt < t.2.1) (hd : decode cc pc = .ok (.baload, 1))
    (k : ev_go p l e R s m args below meth c Q D tys T I' b0 nL ad w0 Wr γ (pc + 1, L, (.inl b, ev_nt) :: S, FS, RS)) : ev_go p l e R s m args below meth c Q D tys T I b0 nL ad w0 Wr γ (pc, L, (.inl q, tq) :: (.inr (j + 2), ta) :: S, FS, RS) := by
  intro H locs ls stk ws h
  dsimp only at h
  obtain ⟨hz, hl, hs, hF, hR, hw, hI, hP, hD, hS, hfr⟩ := h
  obtain ⟨x0, ys, rfl, ⟨i, rfl, hi⟩, hti, hs1⟩ := ev_stk_cons hs
  obtain ⟨x, zs, rfl, hx, -, hs2⟩ := ev_stk_cons hs1
  obtain ⟨rfl, hj⟩ : x = .ref (ad j) ∧ j < T.length := hx
  obtain ⟨e0, g1, ge⟩ := hw.2 j _ ht
  unfold ev_c at ge
  dsimp only at ge
  rw [if_neg (by rw [h3]; decide)] at ge
  obtain ⟨cA, f, rfl, g2, g3⟩ := ge
  obtain ⟨i0, i1⟩ := hq ls ws i hw hl hF hI hi hti
  obtain ⟨a1, a2⟩ := hstep ls ws i (f i.toNatClampNeg) hw hl hF hI hi hti i0 i1 (by rw [gA_eq g1]; rfl) (g3 _ (en_clamp i0 i1))
  exact va_bald C.1 C.2.1 C.2.2.2.2.2.1 hP j t.1 g1 (by rw [g2, h3]; rfl) (vp_in_iff.mpr ⟨i0, i1⟩) hd (k H locs ls (.int (f i.toNatClampNeg) :: zs) ws ⟨hz, hl, ⟨⟨⟨_, rfl, a2⟩, ev_tag0⟩, hs2⟩, hF, hR, hw, a1, hP, hD, hS, hfr⟩)
/-- and, just so -/
theorem hs_and (C : ev_cx p s m args meth c cc nL o D tys aK aV b0) {v d : Int} {tq tr : ev_t} (hd : decode cc pc = .ok (.iand, 1)) (k : ev_go p l e R s m args below meth c Q D tys T I b0 nL ad w0 Wr γ (pc + 1, L, (.inl ((Int32.ofInt v &&& Int32.ofInt d).toInt, (Int32.ofInt v &&& Int32.ofInt d).toInt), ev_nt) :: S, FS, RS)) : ev_go p l e R s m args below meth c Q D tys T I b0 nL ad w0 Wr γ (pc, L, (.inl (d, d), tr) :: (.inl (v, v), tq) :: S, FS, RS) := by
  intro H locs ls stk ws h
  dsimp only at h
  obtain ⟨h0, hl, hs, hr⟩ := h
  obtain ⟨y0, ys, rfl, ⟨y, rfl, hy⟩, ty, hs1⟩ := ev_stk_cons hs
  obtain ⟨x0, zs, rfl, ⟨x, rfl, hx⟩, tx, hs2⟩ := ev_stk_cons hs1
  have e1 : y = Int32.ofInt d := by
    have h1 := hy.1; have h2 := hy.2; dsimp only at h1 h2
    have h3 : y.toInt = d := by omega
    rw [← h3, Int32.ofInt_toInt]
  have e2 : x = Int32.ofInt v := by
    have h1 := hx.1; have h2 := hx.2; dsimp only at h1 h2
    have h3 : x.toInt = v := by omega
    rw [← h3, Int32.ofInt_toInt]
  refine lv_iand C.1 C.2.1 hd (k H locs ls (.int (x &&& y) :: zs) ws ⟨h0, hl, ⟨⟨⟨_, rfl, ?_⟩, ev_tag0⟩, hs2⟩, hr⟩)
  rw [e1, e2]
  exact en_in_self _
end HVD
theorem ev_go_monoF {p : Program} {l : Launch} {e : Env} {R : Room} {s : State} {m : MethodId} {args : Array Value} {below : List Frame} {meth : Method} {c : Code} {Q : State → Prop} {D : va_G} {tys : List (ClassId × FieldType)} {T : en_T} {I I' : va_W → Prop} {b0 nL : Nat} {ad : Nat → Nat} {w0 : va_W} {Wr : List (Nat × Nat)} {γ : Nat → Int} {pc : Nat} {L : List ev_l} {S : List ev_s} {FS : List ev_f} {RS : List ev_r} (h : ∀ (ls : Array Slot) (w : va_W), ev_w tys T ad w → ev_lo T.length ad γ L ls → (∀ f ∈ FS, ev_fact γ ls w f) → I w → I' w) (k : ev_go p l e R s m args below meth c Q D tys T I' b0 nL ad w0 Wr γ (pc, L, S, FS, RS)) : ev_go p l e R s m args below meth c Q D tys T I b0 nL ad w0 Wr γ (pc, L, S, FS, RS) := by
  intro H locs ls stk ws ha
  dsimp only at ha
  obtain ⟨hz, hl, hs, hF, hR, hw, hI, hr⟩ := ha
  exact k H locs ls stk ws ⟨hz, hl, hs, hF, hR, hw, h ls ws hw hl hF hI, hr⟩
theorem ev_hI_mono {I : va_W → Prop} {sp sp' : List (Nat × Nat)} (h : ev_hI I sp) (hs : ∀ q ∈ sp, q ∈ sp') : ev_hI I sp' := fun W1 w w' h1 h2 h3 => h W1 w w' (fun q hq hm => h1 q hq (hs q hm)) h2 h3
