theorem gp_2 : ∀ (d i fu : Nat) (τ : pS), i + d = 8 → d < fu → f_M_goesPlain_84_p2 fu (i : Int) τ = f_M_goesPlain_84_p28 4096 0 (pCp τ 85 140 i 8)
  | 0, i, fu, τ, hi, hf => by
    obtain ⟨n, rfl⟩ : ∃ n, fu = n + 1 := ⟨fu - 1, by omega⟩
    obtain rfl : i = 8 := by omega
    rw [pCp_e]
    show (if (8 : Int) ≤ ((8 : Nat) : Int) then _ else _) = _
    rw [if_pos (by decide)]
  | d + 1, i, fu, τ, hi, hf => by
    obtain ⟨n, rfl⟩ : ∃ n, fu = n + 1 := ⟨fu - 1, by omega⟩
    have g : (0 : Int) ≤ (i : Int) ∧ (i : Int) < 8 := by omega
    have iL : i < 8 := by omega
    have k1 : ¬ (8 : Int) ≤ (i : Int) := by omega
    have ih := gp_2 d (i + 1) n (pU τ 140 i (τ 85 i)) (by omega) (by omega)
    show (if (8 : Int) ≤ (i : Int) then _ else _) = _
    rw [if_neg k1, if_pos g, if_pos g, Int.toNat_natCast, pw_s iL (by decide), ih, pCp_s (by decide) iL]
theorem gp_28 : ∀ (d i fu : Nat) (τ : pS), i + d = 64 → d < fu → f_M_goesPlain_84_p28 fu (i : Int) τ = f_M_goesPlain_84_p54 4096 0 (pCp τ 86 141 i 64)
  | 0, i, fu, τ, hi, hf => by
    obtain ⟨n, rfl⟩ : ∃ n, fu = n + 1 := ⟨fu - 1, by omega⟩
    obtain rfl : i = 64 := by omega
    rw [pCp_e]
    show (if (64 : Int) ≤ ((64 : Nat) : Int) then _ else _) = _
    rw [if_pos (by decide)]
  | d + 1, i, fu, τ, hi, hf => by
    obtain ⟨n, rfl⟩ : ∃ n, fu = n + 1 := ⟨fu - 1, by omega⟩
    have g : (0 : Int) ≤ (i : Int) ∧ (i : Int) < 64 := by omega
    have iL : i < 64 := by omega
    have k1 : ¬ (64 : Int) ≤ (i : Int) := by omega
    have ih := gp_28 d (i + 1) n (pU τ 141 i (τ 86 i)) (by omega) (by omega)
    show (if (64 : Int) ≤ (i : Int) then _ else _) = _
    rw [if_neg k1, if_pos g, if_pos g, Int.toNat_natCast, pw_s iL (by decide), ih, pCp_s (by decide) iL]
def Ppl (k _x : Nat) : Prop := 66 ≤ k ∧ k ≤ 70
def Qpl (k _x : Nat) : Prop := 140 ≤ k ∧ k ≤ 142
theorem Ppl_A (k x : Nat) (h : Ppl k x) : ¬ wcA k x := by
  unfold Ppl at h
  unfold wcA wcT wcP wcL wcS wcR wcK wcW
  omega
theorem Qpl_A (k x : Nat) (h : Qpl k x) : ¬ wmA k x := by
  unfold Qpl at h
  unfold wmA wmT wmP wmL wmS wmR wmK wmW
  omega
theorem PG.q {m : Nat} {rec : Nat → O8} {σ τ σ' τ' : pS} (h : PG m rec σ τ) (h1 : EQc wcP σ σ') (h2 : EQc wmP τ τ') : PG m rec σ' τ' := by
  have a : ∀ k x, 5 ≤ k → k ≤ 13 → σ' k x = σ k x := fun k x p q => h1 k x (by unfold wcP; omega)
  have b : ∀ k x, 88 ≤ k → k ≤ 95 → τ' k x = τ k x := fun k x p q => h2 k x (by unfold wmP; omega)
  have e8 : σ' 8 = σ 8 := funext (fun x => a 8 x (by decide) (by decide))
  refine ⟨h.le, (h1 4 11 (by unfold wcP; omega)).trans h.cm, (h2 84 2 (by unfold wmP; omega)).trans h.mm, fun j hj => ?_, fun j hj => ?_⟩
  · obtain ⟨c1, c2, c3⟩ := h.op j hj
    refine ⟨?_, ?_, c3⟩
    · unfold CRp at *
      rw [a 5 _ (by decide) (by decide), a 6 _ (by decide) (by decide), a 7 _ (by decide) (by decide), a 8 _ (by decide) (by decide), a 9 _ (by decide) (by decide), a 10 _ (by decide) (by decide), a 11 _ (by decide) (by decide)]
      exact c1
    · unfold MRp at *
      rw [b 88 _ (by decide) (by decide), b 89 _ (by decide) (by decide), b 90 _ (by decide) (by decide), b 91 _ (by decide) (by decide), b 92 _ (by decide) (by decide), b 93 _ (by decide) (by decide), b 94 _ (by decide) (by decide), b 95 _ (by decide) (by decide)]
      exact c2
  · rw [a 12 _ (by decide) (by decide), a 13 _ (by decide) (by decide), a 9 _ (by decide) (by decide), a 10 _ (by decide) (by decide), e8]
    exact h.so j hj
/-- a store's bytes, in the class -/
theorem pp_c {p v : Int} {s : Nat} {M : Nat → Int} (hs : s ≤ 4) : ∀ (d e fu : Nat) (σ : pS), e + d = s → d < fu → (∀ x, σ 68 x = ub p v M e x) → ∃ σ', f_State_putBytes_66_p3 fu p (s : Int) v (e : Int) σ = some (0, σ') ∧ FR (Pk 68) σ σ' ∧ ∀ x, σ' 68 x = ub p v M s x
  | 0, e, fu, σ, he, hf, hm => by
    obtain ⟨n, rfl⟩ : ∃ n, fu = n + 1 := ⟨fu - 1, by omega⟩
    obtain rfl : e = s := by omega
    refine ⟨σ, ?_, FR.rf _ _, hm⟩
    show (if (e : Int) ≤ (e : Int) then _ else _) = _
    rw [if_pos (Int.le_refl _)]
  | d + 1, e, fu, σ, he, hf, hm => by
    obtain ⟨n, rfl⟩ : ∃ n, fu = n + 1 := ⟨fu - 1, by omega⟩
    have he4 : e < 4 := by omega
    have k1 : ¬ (s : Int) ≤ (e : Int) := by omega
    obtain ⟨σ', q1, q2, q3⟩ := pp_c (p := p) (v := v) (M := M) hs d (e + 1) n (pU σ 68 (atk p e).toNat (yb v e)) (by omega) (by omega) (fun x => by
      show _ = (if x = (atk p e).toNat then yb v e else ub p v M e x)
      by_cases hx : x = (atk p e).toNat
      · rw [if_pos hx, hx, pU_s]
      · rw [if_neg hx, pU_i _ _ _ _ hx]
        exact hm x)
    refine ⟨σ', ?_, (FR.u (P := Pk 68) rfl).tr q2, q3⟩
    show (if (s : Int) ≤ (e : Int) then _ else _) = _
    rw [if_neg k1, if_pos (pAnd_63 _), pw_s he4 (by decide)]
    exact q1
/-- and in the reference -/
theorem pm_s {i s : Nat} {p v r : Int} {M : Nat → Int} (hi : i < 20) (hs : s ≤ 4) (hr : 0 ≤ r ∧ r < 8) : ∀ (d e fu : Nat) (τ : pS), e + d = s → d < fu → τ 93 i = (s : Int) → τ 88 i = 3 → τ 90 i = r → τ 142 i = p → τ 140 r.toNat = v → (∀ x, τ 141 x = ub p v M e x) → ∃ τ', f_M_doesPlain_84_p128 fu (i : Int) 0 (e : Int) τ = some (0, τ') ∧ FR (Pk 141) τ τ' ∧ ∀ x, τ' 141 x = ub p v M s x
  | 0, e, fu, τ, he, hf, h93, h88, h90, h142, hv, hm => by
    obtain ⟨n, rfl⟩ : ∃ n, fu = n + 1 := ⟨fu - 1, by omega⟩
    have g : (0 : Int) ≤ (i : Int) ∧ (i : Int) < 20 := by omega
    obtain rfl : e = s := by omega
    refine ⟨τ, ?_, FR.rf _ _, hm⟩
    show (if (0 : Int) ≤ (i : Int) ∧ (i : Int) < 20 then _ else _) = _
    rw [if_pos g, Int.toNat_natCast, h93, if_pos (Int.le_refl _), if_pos g, h88, if_neg (by decide)]
  | d + 1, e, fu, τ, he, hf, h93, h88, h90, h142, hv, hm => by
    obtain ⟨n, rfl⟩ : ∃ n, fu = n + 1 := ⟨fu - 1, by omega⟩
    have g : (0 : Int) ≤ (i : Int) ∧ (i : Int) < 20 := by omega
    have he4 : e < 4 := by omega
    have k1 : ¬ (s : Int) ≤ (e : Int) := by omega
    have hby : pAnd (pShr v (pw (8 * (e : Int)))) 255 = yb v e := bs_p v _ (by omega)
    have f1 : FR (Pk 141) τ (pU τ 141 (atk p e).toNat (yb v e)) := FR.u rfl
    obtain ⟨τ', q1, q2, q3⟩ := pm_s (p := p) (v := v) (M := M) hi hs hr d (e + 1) n (pU τ 141 (atk p e).toNat (yb v e)) (by omega) (by omega) ((f1.get (by unfold Pk; omega)).trans h93) ((f1.get (by unfold Pk; omega)).trans h88) ((f1.get (by unfold Pk; omega)).trans h90) ((f1.get (by unfold Pk; omega)).trans h142) ((f1.get (by unfold Pk; omega)).trans hv) (fun x => by
      show _ = (if x = (atk p e).toNat then yb v e else ub p v M e x)
      by_cases hx : x = (atk p e).toNat
      · rw [if_pos hx, hx, pU_s]
      · rw [if_neg hx, pU_i _ _ _ _ hx]
        exact hm x)
    refine ⟨τ', ?_, f1.tr q2, q3⟩
    show (if (0 : Int) ≤ (i : Int) ∧ (i : Int) < 20 then _ else _) = _
    rw [if_pos g, Int.toNat_natCast, h93, if_neg k1, if_pos g, if_pos g, h88, if_pos rfl, if_pos g, h90, if_pos hr, hv, h142]
    unfold f_M_byteOf
    rw [Option.bind_some]
    dsimp only
    rw [if_pos (pAnd_63 _), hby, pw_s he4 (by decide)]
    exact q1
/-- a load's bytes -/
theorem pl_l {i s : Nat} {p r : Int} {σ τ : pS} (hi : i < 20) (hs : s ≤ 4) (hr : 0 ≤ r ∧ r < 8) (h93 : τ 93 i = (s : Int)) (h88 : τ 88 i = 2) (h90 : τ 90 i = r) (h142 : τ 142 i = p) (hm : ∀ x, x < 64 → σ 68 x = τ 141 x) : ∀ (d e fu1 fu2 : Nat) (acc : Int), e + d = s → d < fu1 → d < fu2 → ∃ v, f_Plain_loaded_65_p5 fu1 p (s : Int) acc (e : Int) σ = some (v, σ) ∧ f_M_doesPlain_84_p128 fu2 (i : Int) acc (e : Int) τ = some (0, pU τ 140 r.toNat v)
  | 0, e, fu1, fu2, acc, he, h1, h2 => by
    obtain ⟨n1, rfl⟩ : ∃ n, fu1 = n + 1 := ⟨fu1 - 1, by omega⟩
    obtain ⟨n2, rfl⟩ : ∃ n, fu2 = n + 1 := ⟨fu2 - 1, by omega⟩
    have g : (0 : Int) ≤ (i : Int) ∧ (i : Int) < 20 := by omega
    obtain rfl : e = s := by omega
    refine ⟨acc, ?_, ?_⟩
    · show (if (e : Int) ≤ (e : Int) then _ else _) = _
      rw [if_pos (Int.le_refl _)]
    · show (if (0 : Int) ≤ (i : Int) ∧ (i : Int) < 20 then _ else _) = _
      rw [if_pos g, Int.toNat_natCast, h93, if_pos (Int.le_refl _), if_pos g, h88, if_pos rfl, if_pos g, h90, if_pos hr]
  | d + 1, e, fu1, fu2, acc, he, h1, h2 => by
    obtain ⟨n1, rfl⟩ : ∃ n, fu1 = n + 1 := ⟨fu1 - 1, by omega⟩
    obtain ⟨n2, rfl⟩ : ∃ n, fu2 = n + 1 := ⟨fu2 - 1, by omega⟩
    have g : (0 : Int) ≤ (i : Int) ∧ (i : Int) < 20 := by omega
    have he4 : e < 4 := by omega
    have k1 : ¬ (s : Int) ≤ (e : Int) := by omega
    have hx : (pAnd (pw (p + (e : Int))) 63).toNat < 64 := by have z := pAnd_63 (pw (p + (e : Int))); omega
    obtain ⟨v, q1, q2⟩ := pl_l hi hs hr h93 h88 h90 h142 hm d (e + 1) n1 n2 (pOr acc (pShl (σ 68 (pAnd (pw (p + (e : Int))) 63).toNat) (pw (8 * (e : Int))))) (by omega) (by omega) (by omega)
    refine ⟨v, ?_, ?_⟩
    · show (if (s : Int) ≤ (e : Int) then _ else _) = _
      rw [if_neg k1, if_pos (pAnd_63 _), pw_s he4 (by decide)]
      exact q1
    · show (if (0 : Int) ≤ (i : Int) ∧ (i : Int) < 20 then _ else _) = _
      rw [if_pos g, Int.toNat_natCast, h93, if_neg k1, if_pos g, if_pos g, h88, if_neg (by decide), h142, if_pos (pAnd_63 _), ← hm _ hx, pw_s he4 (by decide)]
      exact q2
/-- the plain run under way, alike -/
def PLr (i : Nat) (σ τ : pS) : Prop := (∀ r, r < 8 → σ 67 r = τ 140 r) ∧ (∀ x, x < 64 → σ 68 x = τ 141 x) ∧ ∀ j, j < i → 2 ≤ σ 5 j → σ 70 j = τ 142 j ∧ 0 ≤ σ 70 j ∧ σ 70 j < 64
theorem c_vin (r : Int) (σ : pS) : f_Plain_valueIn_65 r σ = some (if 0 ≤ r ∧ r < 8 then σ 67 r.toNat else 0, σ) := by
  unfold f_Plain_valueIn_65
  rw [x_isCell, Option.bind_some]
  dsimp only
  by_cases z : 0 ≤ r ∧ r < 8
  · rw [if_pos z, if_pos z, if_pos z, if_neg (by decide)]
  · rw [if_neg z, if_pos rfl, if_neg z]
section HA
variable {N m : Nat} {rec : Nat → O8} {σ τ σ' τ' : pS}
theorem pl_st (hG : PG m rec σ τ) {i : Nat} (h : PLr i σ τ) (hi : i < m) (n : Nat) : ∃ σ' τ', f_Plain_go_65_4_24_p10 (n + 1) (i : Int) σ = f_Plain_go_65_4_24_p10 n ((i + 1 : Nat) : Int) σ' ∧ f_M_doesPlain_84 (i : Int) τ = some (0, τ') ∧ FR Ppl σ σ' ∧ FR Qpl τ τ' ∧ PLr (i + 1) σ' τ' := by
  have hm := hG.le
  have i20 : i < 20 := by omega
  have g : (0 : Int) ≤ (i : Int) ∧ (i : Int) < 20 := by omega
  have nX : ¬ σ 4 11 ≤ (i : Int) := by have := hG.cm; omega
  obtain ⟨h1, h2, h3⟩ := h
  obtain ⟨cr, mr, vv⟩ := hG.op i hi
  obtain ⟨r5, r6, r7, r89, r10, r11⟩ := cr
  obtain ⟨t88, t89, t90, t1, t2, t95⟩ := mr
  obtain ⟨w1, w2, w3, w4, w5, w6, w7⟩ := vv
  have e88 : τ 88 i = σ 5 i := t88.trans r5.symm
  obtain ⟨A, hA⟩ : ∃ A : Int, (if 0 ≤ σ 9 i ∧ σ 9 i < 8 then σ 67 (σ 9 i).toNat else 0) = A := ⟨_, rfl⟩
  obtain ⟨B, hB⟩ : ∃ B : Int, (if 0 ≤ σ 10 i ∧ σ 10 i < 8 then σ 67 (σ 10 i).toNat else 0) = B := ⟨_, rfl⟩
  obtain ⟨p, hp⟩ : ∃ p : Int, pAnd (pw (B + σ 11 i)) 63 = p := ⟨_, rfl⟩
  have hp63 : 0 ≤ p ∧ p < 64 := by rw [← hp]; exact pAnd_63 _
  obtain ⟨σ1, e1⟩ : ∃ s, pU σ 70 i p = s := ⟨_, rfl⟩
  have f1 : FR Ppl σ σ1 := by rw [← e1]; exact FR.u (by unfold Ppl; omega)
  have o1 : ∀ k x, k ≠ 70 → σ1 k x = σ k x := fun k x z => by rw [← e1, pU_c _ _ _ _ z]
  have x70 : σ1 70 i = p := by rw [← e1, pU_s]
  have eX : f_Plain_go_65_4_24_p10 (n + 1) (i : Int) σ = (if σ 5 i = 3 then ((f_State_putBytes_66 p (σ 7 i) A σ1).bind fun q25 => f_Plain_go_65_4_24_p10 n ((i + 1 : Nat) : Int) q25.2) else (if (if 0 ≤ σ 8 i ∧ σ 8 i < 8 then (1 : Int) else 0) = 0 then f_Plain_go_65_4_24_p10 n ((i + 1 : Nat) : Int) σ1 else (if σ 5 i = 2 then ((f_Plain_loaded_65 p (σ 7 i) σ1).bind fun q21 => (if 0 ≤ σ 8 i ∧ σ 8 i < 8 then f_Plain_go_65_4_24_p10 n ((i + 1 : Nat) : Int) (pU q21.2 67 (σ 8 i).toNat q21.1) else none)) else ((f_Prog_reckoned_4 (i : Int) A B σ1).bind fun q17 => (if 0 ≤ σ 8 i ∧ σ 8 i < 8 then f_Plain_go_65_4_24_p10 n ((i + 1 : Nat) : Int) (pU q17.2 67 (σ 8 i).toNat q17.1) else none))))) := by
    show (if σ 4 11 ≤ (i : Int) then _ else _) = _
    rw [if_neg nX]
    simp only [if_pos g, Int.toNat_natCast, c_vin, Option.bind_some, hA, hB]
    have ep : f_Prog_placeBy_4 (i : Int) B σ = some (p, σ) := by
      unfold f_Prog_placeBy_4
      rw [if_pos g, Int.toNat_natCast, hp]
    rw [ep, Option.bind_some]
    simp only [e1, x70, x_isCell, Option.bind_some, pw_s i20 (show 20 ≤ 100000 by decide), o1 8 i (by decide), o1 5 i (by decide), o1 7 i (by decide)]
  -- what holds of the places then
  have pk : ∀ (s t : pS), (∀ j, s 5 j = σ 5 j) → (∀ j, j < i → s 70 j = σ 70 j ∧ t 142 j = τ 142 j) → (2 ≤ σ 5 i → s 70 i = p ∧ t 142 i = p) → ∀ j, j < i + 1 → 2 ≤ s 5 j → s 70 j = t 142 j ∧ 0 ≤ s 70 j ∧ s 70 j < 64 := fun s t z1 z2 z3 j hj hk => by
    rw [z1] at hk
    by_cases y : j = i
    · rw [y] at hk ⊢
      obtain ⟨u1, u2⟩ := z3 hk
      rw [u1, u2]
      exact ⟨rfl, hp63⟩
    · obtain ⟨u1, u2⟩ := z2 j (by omega)
      rw [u1, u2]
      exact h3 j (by omega) hk
  rw [eX]
  by_cases k3 : σ 5 i = 3
  · rw [if_pos k3]
    obtain ⟨sz1, sz2⟩ := hG.sz hi (by omega)
    obtain ⟨s, hs⟩ : ∃ s : Nat, σ 7 i = (s : Int) := ⟨(σ 7 i).toNat, by omega⟩
    have r9 : σ 9 i = (rec i).2.2.2.1 := by
      rcases r89 with ⟨-, -, q⟩ | ⟨q, -⟩
      · exact q
      · omega
    have r10' : σ 10 i = (rec i).2.2.2.2.2.2.1 := by
      rcases r10 with ⟨q, -⟩ | ⟨-, q⟩
      · omega
      · exact q
    obtain ⟨t93, t94⟩ := t2 (by omega)
    have hr : 0 ≤ τ 90 i ∧ τ 90 i < 8 := by rw [t90]; omega
    have e90 : σ 9 i = τ 90 i := r9.trans t90.symm
    have hAv : A = τ 140 (τ 90 i).toNat := by
      rw [← hA, e90, if_pos hr]
      exact h1 _ (by omega)
    have e94 : τ 94 i = σ 10 i := t94.trans r10'.symm
    have e95 : τ 95 i = σ 11 i := (t95 (by omega)).trans r11.symm
    have ss4 : s ≤ 4 := by omega
    obtain ⟨t1', et⟩ : ∃ t, pU τ 142 i p = t := ⟨_, rfl⟩
    have ot : ∀ k x, k ≠ 142 → t1' k x = τ k x := fun k x z => by rw [← et, pU_c _ _ _ _ z]
    have eM : f_M_doesPlain_84 (i : Int) τ = f_M_doesPlain_84_p128 4096 (i : Int) 0 ((0 : Nat) : Int) t1' := by
      unfold f_M_doesPlain_84 f_M_doesPlain_84_p105
      simp only [if_pos g, Int.toNat_natCast, e88, k3, e94, e95]
      rw [if_neg (by decide), if_neg (by decide)]
      by_cases y : σ 10 i = -1
      · have : B = 0 := by rw [← hB, y]; rfl
        rw [if_pos y, ← et, ← hp, this]
        rfl
      · have y8 : 0 ≤ σ 10 i ∧ σ 10 i < 8 := by omega
        have : B = τ 140 (σ 10 i).toNat := by rw [← hB, if_pos y8]; exact h1 _ (by omega)
        rw [if_neg y, if_pos y8, ← et, ← hp, this]
        rfl
    obtain ⟨σ2, q1, q2, q3⟩ := pp_c (p := p) (v := A) (s := s) (M := σ 68) ss4 s 0 4096 σ1 (by omega) (by omega) (fun x => o1 68 x (by decide))
    obtain ⟨τ2, y1, y2, y3⟩ := pm_s (i := i) (s := s) (p := p) (v := A) (r := τ 90 i) (M := τ 141) i20 ss4 hr s 0 4096 t1' (by omega) (by omega) (by rw [ot _ _ (by decide), sz1]; exact hs) (by rw [ot _ _ (by decide), e88]; exact k3) (ot _ _ (by decide)) (by rw [← et, pU_s]) (by rw [ot _ _ (by decide), hAv]) (fun x => ot 141 x (by decide))
    have q1 : f_State_putBytes_66 p (s : Int) A σ1 = some (0, σ2) := q1
    refine ⟨σ2, τ2, by rw [hs, q1, Option.bind_some], eM.trans y1, f1.tr (q2.mono (fun k x z => by unfold Pk at z; unfold Ppl; omega)), ((by rw [← et]; exact FR.u (by unfold Qpl; omega) : FR Qpl τ t1')).tr (y2.mono (fun k x z => by unfold Pk at z; unfold Qpl; omega)), fun r hr' => ?_, fun x hx => ?_, pk σ2 τ2 (fun j => ?_) (fun j hj => ⟨?_, ?_⟩) (fun _ => ⟨?_, ?_⟩)⟩
    · rw [q2.get (by unfold Pk; omega), y2.get (by unfold Pk; omega), o1 _ _ (by decide), ot _ _ (by decide)]; exact h1 r hr'
    · rw [q3, y3]; exact ub_cg h2 s x hx
    · rw [q2.get (by unfold Pk; omega), o1 _ _ (by decide)]
    · rw [q2.get (by unfold Pk; omega), ← e1, pU_i _ _ _ _ (by omega)]
    · rw [y2.get (by unfold Pk; omega), ← et, pU_i _ _ _ _ (by omega)]
    · rw [q2.get (by unfold Pk; omega), x70]
    · rw [y2.get (by unfold Pk; omega), ← et, pU_s]
  rw [if_neg k3]
  have r8 : σ 8 i = (rec i).2.2.2.1 := by
    rcases r89 with ⟨q, -⟩ | ⟨-, q, -⟩
    · omega
    · exact q
  have hr : 0 ≤ σ 8 i ∧ σ 8 i < 8 := by rw [r8]; omega
  have e90 : τ 90 i = σ 8 i := t90.trans r8.symm
  rw [if_pos hr, if_neg (show ¬ (1 : Int) = 0 by decide)]
  -- a register becomes v
  have fin : ∀ (v : Int) (t : pS), (∀ k x, k ≠ 142 → t k x = τ k x) → (∀ j, j < i → t 142 j = τ 142 j) → (2 ≤ σ 5 i → t 142 i = p) → FR Qpl τ t → PLr (i + 1) (pU σ1 67 (σ 8 i).toNat v) (pU t 140 (σ 8 i).toNat v) := fun v t z1 z2 z3 z4 => by
    refine ⟨fun r hr' => ?_, fun x hx => ?_, pk _ _ (fun j => ?_) (fun j hj => ⟨?_, ?_⟩) (fun k => ⟨?_, ?_⟩)⟩
    · by_cases y : r = (σ 8 i).toNat
      · rw [y, pU_s, pU_s]
      · rw [pU_i _ _ _ _ y, pU_i _ _ _ _ y, o1 _ _ (by decide), z1 _ _ (by decide)]; exact h1 r hr'
    · rw [pU_c _ _ _ _ (by decide), pU_c _ _ _ _ (by decide), o1 _ _ (by decide), z1 _ _ (by decide)]; exact h2 x hx
    · rw [pU_c _ _ _ _ (by decide), o1 _ _ (by decide)]
    · rw [pU_c _ _ _ _ (by decide), ← e1, pU_i _ _ _ _ (by omega)]
    · rw [pU_c _ _ _ _ (by decide)]; exact z2 j hj
    · rw [pU_c _ _ _ _ (by decide), x70]
    · rw [pU_c _ _ _ _ (by decide)]; exact z3 k
  by_cases k2 : σ 5 i = 2
  · rw [if_pos k2]
    obtain ⟨sz1, sz2⟩ := hG.sz hi (by omega)
    obtain ⟨s, hs⟩ : ∃ s : Nat, σ 7 i = (s : Int) := ⟨(σ 7 i).toNat, by omega⟩
    have ss4 : s ≤ 4 := by omega
    have r10' : σ 10 i = (rec i).2.2.2.2.2.2.1 := by
      rcases r10 with ⟨q, -⟩ | ⟨-, q⟩
      · omega
      · exact q
    obtain ⟨t93, t94⟩ := t2 (by omega)
    have e94 : τ 94 i = σ 10 i := t94.trans r10'.symm
    have e95 : τ 95 i = σ 11 i := (t95 (by omega)).trans r11.symm
    obtain ⟨t1', et⟩ : ∃ t, pU τ 142 i p = t := ⟨_, rfl⟩
    have ot : ∀ k x, k ≠ 142 → t1' k x = τ k x := fun k x z => by rw [← et, pU_c _ _ _ _ z]
    have eM : f_M_doesPlain_84 (i : Int) τ = f_M_doesPlain_84_p128 4096 (i : Int) 0 ((0 : Nat) : Int) t1' := by
      unfold f_M_doesPlain_84 f_M_doesPlain_84_p105
      simp only [if_pos g, Int.toNat_natCast, e88, k2, e94, e95]
      rw [if_neg (by decide), if_neg (by decide)]
      by_cases y : σ 10 i = -1
      · have : B = 0 := by rw [← hB, y]; rfl
        rw [if_pos y, ← et, ← hp, this]
        rfl
      · have y8 : 0 ≤ σ 10 i ∧ σ 10 i < 8 := by omega
        have : B = τ 140 (σ 10 i).toNat := by rw [← hB, if_pos y8]; exact h1 _ (by omega)
        rw [if_neg y, if_pos y8, ← et, ← hp, this]
        rfl
    obtain ⟨v, q1, q2⟩ := pl_l (i := i) (s := s) (p := p) (r := σ 8 i) (σ := σ1) (τ := t1') i20 ss4 hr (by rw [ot _ _ (by decide), sz1]; exact hs) (by rw [ot _ _ (by decide), e88]; exact k2) (by rw [ot _ _ (by decide)]; exact e90) (by rw [← et, pU_s]) (fun x hx => by rw [o1 _ _ (by decide), ot _ _ (by decide)]; exact h2 x hx) s 0 4096 4096 0 (by omega) (by omega) (by omega)
    have q1 : f_Plain_loaded_65 p (s : Int) σ1 = some (v, σ1) := q1
    have ft : FR Qpl τ t1' := by rw [← et]; exact FR.u (by unfold Qpl; omega)
    refine ⟨pU σ1 67 (σ 8 i).toNat v, pU t1' 140 (σ 8 i).toNat v, by rw [hs, q1, Option.bind_some]; dsimp only; rw [if_pos hr], eM.trans q2, f1.tr (FR.u (by unfold Ppl; omega)), ft.tr (FR.u (by unfold Qpl; omega)), fin v t1' ot (fun j hj => by rw [← et, pU_i _ _ _ _ (by omega)]) (fun _ => by rw [← et, pU_s]) ft⟩
  rw [if_neg k2]
  by_cases k0 : σ 5 i = 0
  · have e6 : σ1 6 i = 35 := by
      rw [o1 6 i (by decide), r6]
      exact ko_0 (by rw [← w7, ← r5]; exact k0)
    have e95 : τ 95 i = σ 11 i := (t95 (by omega)).trans r11.symm
    rw [c_rk0 i20 _ _ e6, Option.bind_some]
    dsimp only
    rw [if_pos hr, o1 11 i (by decide)]
    refine ⟨_, pU τ 140 (σ 8 i).toNat (σ 11 i), rfl, ?_, f1.tr (FR.u (by unfold Ppl; omega)), FR.u (by unfold Qpl; omega), fin _ τ (fun _ _ _ => rfl) (fun _ _ => rfl) (fun q => by omega) (FR.rf _ _)⟩
    unfold f_M_doesPlain_84
    simp only [if_pos g, Int.toNat_natCast, e88, e90, e95, if_pos hr, if_pos k0]
  · have k1 : σ 5 i = 1 := by omega
    obtain ⟨t91, t92⟩ := t1 (by omega)
    have r9 : σ 9 i = (rec i).2.2.2.2.1 := by
      rcases r89 with ⟨q, -⟩ | ⟨-, -, q⟩
      · omega
      · exact q
    have r10' : σ 10 i = (rec i).2.2.2.2.2.1 := by
      rcases r10 with ⟨-, q⟩ | ⟨q, -⟩
      · exact q
      · omega
    rcases w3 with ⟨-, v9, v10⟩ | ⟨q, -⟩
    · have e6 := ko_1 (c := σ1 6 i) (by rw [o1 6 i (by decide), r6, ← w7, ← r5]; exact k1)
      have g91 : 0 ≤ τ 91 i ∧ τ 91 i < 8 := by rw [t91]; omega
      have g92 : 0 ≤ τ 92 i ∧ τ 92 i < 8 := by rw [t92]; omega
      have hAv : A = τ 140 (τ 91 i).toNat := by
        rw [← hA, r9, ← t91, if_pos g91]
        exact h1 _ (by omega)
      have hBv : B = τ 140 (τ 92 i).toNat := by
        rw [← hB, r10', ← t92, if_pos g92]
        exact h1 _ (by omega)
      obtain ⟨v, c1, c2⟩ := c_rk1 i20 A B (τ1 := τ) e6
      have e89 : τ 89 i = σ1 6 i := by rw [t89, o1 6 i (by decide), r6]
      rw [c1, Option.bind_some]
      dsimp only
      rw [if_pos hr]
      refine ⟨_, pU τ 140 (σ 8 i).toNat v, rfl, ?_, f1.tr (FR.u (by unfold Ppl; omega)), FR.u (by unfold Qpl; omega), fin _ τ (fun _ _ _ => rfl) (fun _ _ => rfl) (fun q => by omega) (FR.rf _ _)⟩
      unfold f_M_doesPlain_84
      simp only [if_pos g, Int.toNat_natCast, e88, e90, if_pos hr, if_neg k0, if_pos k1, if_pos g91, if_pos g92]
      rw [← hAv, ← hBv, e89, c2, Option.bind_some]
    · omega
theorem pl_lp (hm : m ≤ 20) : ∀ (d i fu1 fu2 : Nat) (σ τ : pS), i + d = m → d < fu1 → d < fu2 → PG m rec σ τ → PLr i σ τ → ∃ σ' τ', f_Plain_go_65_4_24_p10 fu1 (i : Int) σ = some (0, σ') ∧ f_M_goesPlain_84_p54 fu2 (i : Int) τ = some (0, τ') ∧ FR Ppl σ σ' ∧ FR Qpl τ τ' ∧ PLr m σ' τ'
  | 0, i, fu1, fu2, σ, τ, hi, h1, h2, hG, h => by
    obtain ⟨n1, rfl⟩ : ∃ n, fu1 = n + 1 := ⟨fu1 - 1, by omega⟩
    obtain ⟨n2, rfl⟩ : ∃ n, fu2 = n + 1 := ⟨fu2 - 1, by omega⟩
    have e1 := hG.cm
    have e2 := hG.mm
    obtain rfl : i = m := by omega
    refine ⟨σ, τ, ?_, ?_, FR.rf _ _, FR.rf _ _, h⟩
    · show (if σ 4 11 ≤ (i : Int) then _ else _) = _
      rw [if_pos (by omega)]
    · show (if τ 84 2 ≤ (i : Int) then _ else _) = _
      rw [if_pos (by omega)]
  | d + 1, i, fu1, fu2, σ, τ, hi, h1, h2, hG, h => by
    obtain ⟨n1, rfl⟩ : ∃ n, fu1 = n + 1 := ⟨fu1 - 1, by omega⟩
    obtain ⟨n2, rfl⟩ : ∃ n, fu2 = n + 1 := ⟨fu2 - 1, by omega⟩
    have e2 := hG.mm
    have him : i < m := by omega
    have i20 : i < 20 := by omega
    have nM : ¬ τ 84 2 ≤ (i : Int) := by omega
    have d1 : (i + 1) + d = m := by omega
    have d2 : d < n1 := by omega
    have d3 : d < n2 := by omega
    obtain ⟨σ1, τ1, p1, p2, p3, p4, p5⟩ := pl_st hG h him n1
    have hG1 : PG m rec σ1 τ1 := hG.q (p3.eq (fun k x z => by unfold Ppl at z; unfold wcP; omega)) (p4.eq (fun k x z => by unfold Qpl at z; unfold wmP; omega))
    obtain ⟨σ2, τ2, q1, q2, q3, q4, q5⟩ := pl_lp hm d (i + 1) n1 n2 σ1 τ1 d1 d2 d3 hG1 p5
    refine ⟨σ2, τ2, p1.trans q1, ?_, p3.tr q3, p4.tr q4, q5⟩
    show (if τ 84 2 ≤ (i : Int) then _ else _) = _
    rw [if_neg nM, p2, Option.bind_some, pw_s i20 (by decide)]
    exact q2
theorem gpl_ls (hG : PG m rec σ τ) (hS : SRx σ τ) : ∃ σ' τ', f_Plain_go_65_4_24 σ = some (0, σ') ∧ f_M_goesPlain_84 τ = some (0, τ') ∧ FR Ppl σ σ' ∧ FR Qpl τ τ' ∧ PLr m σ' τ' := by
  have hm := hG.le
  obtain ⟨σ1, e1⟩ : ∃ s, pU (pKp (pU (pU (pKp (pKp σ 25 67 8) 26 68 64) 66 4 (σ 24 4)) 66 5 (σ 24 5)) 27 69 20) 66 3 (σ 24 3) = s := ⟨_, rfl⟩
  obtain ⟨τ1, d1⟩ : ∃ t, pCp (pCp τ 85 140 0 8) 86 141 0 64 = t := ⟨_, rfl⟩
  have f1 : FR Ppl σ σ1 := by
    rw [← e1]
    refine FR.tr ?_ (FR.u (by unfold Ppl; omega))
    refine FR.tr ?_ (FR.kp (fun x _ => by unfold Ppl; omega))
    refine FR.tr ?_ (FR.u (by unfold Ppl; omega))
    refine FR.tr ?_ (FR.u (by unfold Ppl; omega))
    refine FR.tr ?_ (FR.kp (fun x _ => by unfold Ppl; omega))
    exact FR.kp (fun x _ => by unfold Ppl; omega)
  have f2 : FR Qpl τ τ1 := by
    rw [← d1]
    refine FR.tr ?_ (FR.cp (fun x _ => by unfold Qpl; omega))
    exact FR.cp (fun x _ => by unfold Qpl; omega)
  have c1 : f_State_copyFrom_66_24 σ = some (0, σ1) := by
    rw [← e1]
    unfold f_State_copyFrom_66_24 f_State_copyCellsFrom_66_24 f_State_copySetsFrom_66_24
    rfl
  have hG1 : PG m rec σ1 τ1 := hG.q (f1.eq (fun k x z => by unfold Ppl at z; unfold wcP; omega)) (f2.eq (fun k x z => by unfold Qpl at z; unfold wmP; omega))
  have h0 : PLr 0 σ1 τ1 := by
    refine ⟨fun r hr => ?_, fun x hx => ?_, fun j hj => absurd hj (Nat.not_lt_zero _)⟩
    · rw [← d1, pCp_o (by decide), pCp_d (by omega) hr, ← hS.1 r hr, ← e1]
      simp [pU, pKp, hr]
    · rw [← d1, pCp_d (by omega) hx, pCp_o (by decide), ← hS.2.1 x hx, ← e1]
      simp [pU, pKp, hx]
  obtain ⟨σ2, τ2, q1, q2, q3, q4, q5⟩ := pl_lp hm m 0 4096 4096 σ1 τ1 (by omega) (by omega) (by omega) hG1 h0
  have q1 : f_Plain_go_65_4_24_p10 4096 0 σ1 = some (0, σ2) := q1
  have q2 : f_M_goesPlain_84_p54 4096 0 τ1 = some (0, τ2) := q2
  refine ⟨σ2, τ2, ?_, ?_, f1.tr q3, f2.tr q4, q5⟩
  · unfold f_Plain_go_65_4_24
    rw [c1, Option.bind_some]
    exact q1
  · have k1 : f_M_goesPlain_84 τ = f_M_goesPlain_84_p28 4096 0 (pCp τ 85 140 0 8) := gp_2 8 0 4096 τ (by omega) (by omega)
    have k2 : f_M_goesPlain_84_p28 4096 0 (pCp τ 85 140 0 8) = f_M_goesPlain_84_p54 4096 0 τ1 := by rw [← d1]; exact gp_28 64 0 4096 _ (by omega) (by omega)
    rw [k1, k2]
    exact q2
theorem w_plain (a : Int) (h : WR N σ τ) : ∃ v σ' τ', f_X_plain_0 a σ = some (v, σ') ∧ f_M_plain_84 a τ = some (v, τ') ∧ WS N σ τ σ' τ' := by
  obtain ⟨m, rec, hG⟩ := h.2.1.pg
  obtain ⟨σ1, τ1, q1, q2, q3, q4, q5, q6, -⟩ := gpl_ls hG h.2.2.2.1
  have hW : WS N σ τ σ1 τ1 := WS.of q3 q4 (fun k x z => by unfold Ppl at z; omega) (fun k x z => by unfold Qpl at z; omega) (h.q (q3.eq Ppl_A) (q4.eq Qpl_A))
  unfold f_X_plain_0 f_M_plain_84 f_X_plain_0_p17
  simp only [q1, q2, x_isCell, x_isByte, m_in, Option.bind_some]
  by_cases g : 0 ≤ a ∧ a < 8
  · rw [if_pos g, if_neg (show ¬ (1 : Int) = 0 by decide), if_neg (show ¬ (1 : Int) = 0 by decide), if_pos g, if_pos (show 0 ≤ a ∧ a ≤ 7 by omega), if_neg (show ¬ (1 : Int) = 0 by decide), if_pos g, ← q5 a.toNat (by omega)]
    exact ⟨_, σ1, τ1, rfl, rfl, hW⟩
  · rw [if_neg g, if_pos rfl, if_neg (show ¬ (0 ≤ a ∧ a ≤ 7) by omega), if_pos rfl]
    by_cases gb : 100 ≤ a ∧ a ≤ 163
    · have e : pw (a - 100) = a - 100 := pw_id (by omega) (by omega)
      have g2 : 0 ≤ a - 100 ∧ a - 100 < 64 := by omega
      rw [if_pos gb, if_neg (show ¬ (1 : Int) = 0 by decide), if_neg (show ¬ (1 : Int) = 0 by decide), e]
      simp only [if_true, if_pos g2, ← q6 (a - 100).toNat (by omega)]
      exact ⟨_, σ1, τ1, rfl, rfl, hW⟩
    · rw [if_neg gb, if_pos rfl, if_pos rfl]
      exact ⟨_, σ, τ1, rfl, rfl, WS.of (FR.rf Ppl σ) q4 (fun k x z => by unfold Ppl at z; omega) (fun k x z => by unfold Qpl at z; omega) (h.q (EQc.rf _ _) (q4.eq Qpl_A))⟩
end HA
