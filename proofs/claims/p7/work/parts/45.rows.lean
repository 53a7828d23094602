section EGM
variable {p : Program} {l : Launch} {e : Env} {R : Room} {s : State} {m : MethodId} {args : Array Value} {below : List Frame} {meth : Method} {c : Code} {H : Heap} {locs : List Loc} {cells slots : Nat} {Q : State → Prop}
variable {cc : ByteArray} {pc : Nat} {ls : Array Slot} {rest : List Value} {A : Nat → Prop} {H0 : Heap}
theorem eg_mna (hexec : p.tables.exec = Jvm.exec) (hb : c.code = cc) {own : String} {index : Nat} {ty : FieldType} (hown : s.vm.findClass own = some m.cls) (hclink : (Cond.classLink own index ("[" ++ (FieldType.array ty).toString)).before args s = true) (hover : (Cond.arrayOver (.array ty)).before args s = true) (harr : (Cond.arrayClass ty).before args s = true)
    (hS : va_S A H0 H locs) {n k : Int32} {N' K' : Nat} (hn : ¬ n < 0) (hk : ¬ k < 0) (hN : n.toNatClampNeg = N') (hM : k.toNatClampNeg = K')
    (hb1 : N' * 4 ≤ 536870912) (hb2 : K' * componentBytes ty ≤ 536870912) (hb3 : K' ≤ 536870912) (hdf : fits ty (defaultValue ty) = true) (hdd : (defaultValue ty).isDefault = true) (hcells : cells + (1 + N') ≤ R.cells) (hslots : slots + (N' + N' * K') ≤ R.slots) (hdg : decode cc pc = .ok (.multianewarray index 2, 4))
    (kk : ∀ (cA comp : ClassId) (H1 : Heap), s.vm.findClass ("[" ++ (FieldType.array ty).toString) = some cA → s.vm.findClass (FieldType.array ty).toString = some comp → H1[H.size]? = some (Jvm.Free.Multi.outerC cA N' H.size N') → (∀ j : Nat, j < N' → H1[H.size + 1 + j]? = some (Jvm.Free.Multi.innerC comp K' (defaultValue ty))) → (∀ x : Nat, x < H.size → H1[x]? = H[x]?) → va_S A H0 H1 locs → W p l e R s m args below meth c H1 locs (cells + 1 + N') (slots + N' + N' * K') Q (F0 m (pc + 4) ls (.ref H.size :: rest))) : W p l e R s m args below meth c H locs cells slots Q (F0 m pc ls (.int k :: .int n :: rest)) := by
  subst hN
  subst hM
  intro T hT Xs
  obtain ⟨vm₁, cA, comp, -, fA, fC, hO, -, X', step⟩ := Xs.multianewarray2F hexec hown hclink hover harr (g := F0 m pc ls (.int k :: .int n :: rest)) rfl (by rw [hb]; exact hdg) rfl hn hk hb1 hb2 hb3 hdf hdd hcells hslots
  generalize hF : Jvm.Free.Multi.fill (T.setVm vm₁) cA comp n.toNatClampNeg k.toNatClampNeg (defaultValue ty) n.toNatClampNeg = F at X' step
  have hTh : (T.setVm vm₁).heap = H := hT
  obtain ⟨f1, f2, -, -⟩ := Jvm.Free.Multi.fill_facts (T.setVm vm₁) cA comp n.toNatClampNeg k.toNatClampNeg (defaultValue ty) n.toNatClampNeg
  rw [hF, hTh] at f1 f2
  have hold : ∀ x : Nat, x < H.size → F.heap[x]? = H[x]? := fun x hx => by
    have := Jvm.Free.Multi.fill_old (T.setVm vm₁) cA comp n.toNatClampNeg k.toNatClampNeg (defaultValue ty) (a := x) (by rw [hTh]; exact hx) n.toNatClampNeg
    rw [hF, hTh] at this
    exact this
  have hin : ∀ j : Nat, j < n.toNatClampNeg → F.heap[H.size + 1 + j]? = some (Jvm.Free.Multi.innerC comp k.toNatClampNeg (defaultValue ty)) := fun j hj => by
    have := Jvm.Free.Multi.fill_inner (T.setVm vm₁) cA comp n.toNatClampNeg k.toNatClampNeg (defaultValue ty) n.toNatClampNeg j hj
    rw [hF, hTh] at this
    exact this
  obtain ⟨t, a1, b1⟩ := kk cA comp F.heap fA fC f2 hin hold ⟨by rw [f1]; have := hS.1; omega, fun x h1 h2 => (hold x (Nat.lt_of_lt_of_le h1 hS.1)).trans (hS.2.1 x h1 h2), hS.2.2⟩ F rfl X'
  refine ⟨t, step t ?_, b1⟩
  have e : T.heap.size = H.size := by rw [hT]
  rw [e]
  exact a1
end EGM
theorem eg_app {ws : va_W} {x q : Nat × va_E} {k : Nat} (h : (ws ++ [x])[k]? = some q) : ws[k]? = some q ∨ (k = ws.length ∧ q = x) := by
  by_cases hl : k < ws.length
  · rw [List.getElem?_append_left hl] at h
    exact Or.inl h
  · rw [List.getElem?_append_right (by omega)] at h
    have hz : k - ws.length < 1 := (List.getElem?_eq_some_iff.mp h).1
    have hk0 : k = ws.length := by omega
    subst hk0
    rw [Nat.sub_self] at h
    cases h
    exact Or.inr ⟨rfl, rfl⟩
theorem eg_Dp {A : Nat → Prop} {ws : va_W} {a : Nat} {e : va_E} (hD : va_D A ws) (hn : ∀ (k : Nat) (q : Nat × va_E), ws[k]? = some q → q.1 ≠ a) (hA : A a) : va_D A (ws ++ [(a, e)]) := by
  refine ⟨fun i j x y hi hj hxy => ?_, fun k q hk => ?_⟩
  · rcases eg_app hi with h1 | ⟨h1, h1'⟩ <;> rcases eg_app hj with h2 | ⟨h2, h2'⟩
    · exact hD.1 i j x y h1 h2 hxy
    · subst h2'; exact absurd hxy (hn i x h1)
    · subst h1'; exact absurd hxy.symm (hn j y h2)
    · rw [h1, h2]
  · rcases eg_app hk with h | ⟨_, h⟩
    · exact hD.2 k q h
    · subst h; exact hA
theorem eg_Pp {D : va_G} {cl : List vw_C} {ws : va_W} {H : Heap} {x : Nat × va_E} (hP : va_P D cl ws H) (he : va_at D cl x H) : va_P D cl (ws ++ [x]) H := fun k q hk => by
  rcases eg_app hk with h | ⟨_, h⟩
  · exact hP k q h
  · subst h; exact he
theorem ev_w_push {tys : List (ClassId × FieldType)} {T : en_T} {ad : Nat → Nat} {ws : va_W} {q : Nat} {e : va_E} {t : en_C} (h : ev_w tys T ad ws) (he : ev_c tys T.length ad t e) : ev_w tys (T ++ [t]) (en_up ad T.length q) (ws ++ [(q, e)]) := by
  obtain ⟨h1, h2⟩ := h
  refine ⟨by rw [List.length_append, List.length_append, h1]; rfl, fun j u hj => ?_⟩
  rw [List.length_append]
  by_cases hl : j < T.length
  · rw [List.getElem?_append_left hl] at hj
    obtain ⟨e0, g1, g2⟩ := h2 j u hj
    refine ⟨e0, ?_, eg_c_mono (Nat.le_add_right _ _) (fun k hk => en_up_lt hk) g2⟩
    rw [List.getElem?_append_left (by omega), en_up_lt hl]
    exact g1
  · rw [List.getElem?_append_right (by omega)] at hj
    have hz : j - T.length < 1 := (List.getElem?_eq_some_iff.mp hj).1
    have hj0 : j = T.length := by omega
    subst hj0
    rw [Nat.sub_self] at hj
    cases hj
    refine ⟨e, ?_, eg_c_mono (Nat.le_add_right _ _) (fun k hk => en_up_lt hk) he⟩
    rw [List.getElem?_append_right (by omega), h1, Nat.sub_self, en_up_at]
    rfl
theorem eg_inC (comp : ClassId) : Jvm.Free.Multi.innerC comp 8 (defaultValue .int) = vp_cell comp (8, .inl (fun _ => 0)) := by
  rw [vp_cell_i]
  rfl
theorem eg_outC (cA : ClassId) (h : Nat) : Jvm.Free.Multi.outerC cA 2 h 2 = vp_cell cA (2, .inr (.inr (.inr (.inr (fun j => some (h + 1 + j)))))) := by
  rw [vp_cell_q]
  rfl
def eg_row (T : en_T) : en_T := T ++ [.inl (0, 8, 0, 0)] ++ [.inl (0, 8, 0, 0)] ++ [.inl (3, 2, (T.length : Int), 0)]
theorem eg_row_len (T : en_T) : (eg_row T).length = T.length + 3 := by
  unfold eg_row
  rw [List.length_append, List.length_append, List.length_append]
  rfl
theorem eg_W.row {D : va_G} {tys : List (ClassId × FieldType)} {A : Nat → Prop} {T : en_T} {ad : Nat → Nat} {H H1 : Heap} {cA comp : ClassId} (hW : eg_W D tys A T ad H) (h0 : tys[0]? = some (comp, .int)) (h3 : tys[3]? = some (cA, .array .int)) (hk : ∀ x : Nat, x < H.size → H1[x]? = H[x]?) (ho : H1[H.size]? = some (Jvm.Free.Multi.outerC cA 2 H.size 2)) (hi : ∀ j : Nat, j < 2 → H1[H.size + 1 + j]? = some (Jvm.Free.Multi.innerC comp 8 (defaultValue .int))) (hA : ∀ q, H.size ≤ q → A q) :
    eg_W D tys A (eg_row T) (en_up (en_up (en_up ad T.length (H.size + 1 + 0)) (T.length + 1) (H.size + 1 + 1)) (T.length + 2) H.size) H1 := by
  obtain ⟨ws, w1, w2, w3, w4⟩ := hW
  have lt0 : ∀ (k : Nat) (q : Nat × va_E), ws[k]? = some q → q.1 < H.size := fun k q h => (w3 k q h).lt
  have P0 : va_P D vwCl ws H1 := w3.kept (fun k q h => hk q.1 (lt0 k q h))
  have ein : ∀ j : Nat, j < 2 → va_at D vwCl (H.size + 1 + j, .inl (comp, 8, .inl (fun _ => 0))) H1 := fun j hj => by
    show H1[H.size + 1 + j]? = some (vp_cell comp (8, .inl (fun _ => 0)))
    rw [hi j hj, eg_inC]
  have eout : va_at D vwCl (H.size, .inl (cA, 2, .inr (.inr (.inr (.inr (fun j => some (H.size + 1 + j))))))) H1 := by
    show H1[H.size]? = some (vp_cell cA (2, .inr (.inr (.inr (.inr (fun j => some (H.size + 1 + j)))))))
    rw [ho, eg_outC]
  have c0 : ∀ N ad, ev_c tys N ad (.inl (0, 8, 0, 0)) (.inl (comp, 8, .inl (fun _ => 0))) := fun N ad => ec_arr (show (0 : Nat) ≠ 3 by decide) ⟨comp, _, rfl, h0, fun j hj => ⟨Int.le_refl _, Int.le_refl _⟩⟩
  have P1 := eg_Pp P0 (ein 0 (by decide))
  have D1 := eg_Dp (e := .inl (comp, 8, .inl (fun _ => 0))) w4 (a := H.size + 1 + 0) (fun k q h => by have := lt0 k q h; omega) (hA _ (by omega))
  have lt1 : ∀ (k : Nat) (q : Nat × va_E), (ws ++ [(H.size + 1 + 0, .inl (comp, 8, .inl (fun _ => 0)))])[k]? = some q → q.1 < H.size ∨ q.1 = H.size + 1 := fun k q h => by
    rcases eg_app h with h | ⟨_, h⟩
    · exact Or.inl (lt0 k q h)
    · rw [h]; exact Or.inr rfl
  have P2 := eg_Pp P1 (ein 1 (by decide))
  have D2 := eg_Dp (e := .inl (comp, 8, .inl (fun _ => 0))) D1 (a := H.size + 1 + 1) (fun k q h => by have := lt1 k q h; omega) (hA _ (by omega))
  have lt2 : ∀ (k : Nat) (q : Nat × va_E), (ws ++ [(H.size + 1 + 0, .inl (comp, 8, .inl (fun _ => 0)))] ++ [(H.size + 1 + 1, .inl (comp, 8, .inl (fun _ => 0)))])[k]? = some q → q.1 < H.size ∨ H.size < q.1 := fun k q h => by
    rcases eg_app h with h | ⟨_, h⟩
    · have := lt1 k q h; omega
    · rw [h]; exact Or.inr (by show H.size < H.size + 1 + 1; omega)
  have P3 := eg_Pp P2 eout
  have D3 := eg_Dp (e := .inl (cA, 2, .inr (.inr (.inr (.inr (fun j => some (H.size + 1 + j))))))) D2 (a := H.size) (fun k q h => by have := lt2 k q h; omega) (hA _ (Nat.le_refl _))
  have n1 : (T ++ [.inl (0, 8, 0, 0)] : en_T).length = T.length + 1 := by rw [List.length_append]; rfl
  have n2 : (T ++ [.inl (0, 8, 0, 0)] ++ [.inl (0, 8, 0, 0)] : en_T).length = T.length + 2 := by rw [List.length_append, n1]; rfl
  have V1 := ev_w_push (q := H.size + 1 + 0) ⟨w1, w2⟩ (c0 T.length ad)
  have V2 := ev_w_push (q := H.size + 1 + 1) V1 (c0 _ _)
  have V3 := ev_w_push (q := H.size) (t := .inl (3, 2, (T.length : Int), 0)) (e := .inl (cA, 2, .inr (.inr (.inr (.inr (fun j => some (H.size + 1 + j))))))) V2 (by
    unfold ev_c
    dsimp only
    rw [if_pos rfl]
    refine ⟨cA, _, rfl, h3, fun j hj => ?_⟩
    rw [Int.toNat_natCast, n1, n2]
    match j, hj with
    | 0, _ => exact ⟨by rw [en_up_lt (by omega)]; exact congrArg some en_up_at.symm, by omega⟩
    | 1, _ => exact ⟨by rw [en_up_at], by omega⟩
    | k + 2, h => omega)
  rw [n1, n2] at V3
  exact ⟨_, V3.1, V3.2, P3, D3⟩
set_option maxHeartbeats 4000000 in
theorem eg_rowsmake (l : Launch) {κ : en_K} {L : en_L} {S : List en_V} {T : en_T} {cs sl : Nat} (hm : κ.1 = 9) (hc : (decide (κ.2.1.length ≤ 1) && (decide (cs + 3 ≤ k_mc κ) && decide (sl + 18 ≤ k_ms κ))) = true)
    (h1 : en_chk 5 prog_7_method_1_code [] (k_fr κ, k_lo κ, k_mc κ, k_ms κ) true none (k_rv κ) (k_T1 κ) [(8, L, .inl (8, 8) :: .inl (2, 2) :: S, T, cs, sl)] 100 (en_start κ 1) = true)
    (h2 : en_chk 5 prog_7_method_1_code [] (k_fr κ, k_lo κ, k_mc κ, k_ms κ) true none (k_rv κ) (k_T1 κ) [] 100 (12, L, .inr (T.length + 2 + 2) :: S, eg_row T, cs + 3, sl + 18) = true) : en_ok l κ := by
  simp only [Bool.and_eq_true, decide_eq_true_eq] at hc
  obtain ⟨c1, c2, c3⟩ := hc
  refine en_ok_of (r := (yX5_init, prog_7_method_1_code, 1, none)) (o := 5) (by rw [hm]; exact en_mt_9) (by rw [hm]; exact en_mo_9) (by decide) c1 ?_
  intro p e s m args below meth c D tys aK aV b0 ad C hret hnm
  have hK0 : ∀ κ' ∈ ([] : List en_K), en_ok l κ' := fun _ h => absurd h List.not_mem_nil
  have k2 := en_chk_ok (Q := MQ below (en_qc D tys b0 (k_T0 κ).length ad (k_rv κ) (k_T1 κ)) args s (k_mc κ) (k_ms κ) (fun q => b0 ≤ q)) (R := en_rm κ) (p := p) (l := l) (e := e) (below := below) C hK0 ⟨rfl, rfl, rfl, rfl⟩ (fun _ => hnm) hret rfl (fun x hx => absurd hx List.not_mem_nil) 100 _ h2
  refine en_chk_ok (R := en_rm κ) C hK0 ⟨rfl, rfl, rfl, rfl⟩ (fun _ => hnm) hret rfl (fun x hx => ?_) 100 _ h1
  rw [List.mem_singleton.mp hx]
  intro H locs ls stk ad1 hh
  dsimp only at hh
  obtain ⟨hl, hn0, hs, hW, hS, hr, hr2⟩ := hh
  obtain ⟨y0, ys, rfl, ⟨y, rfl, hy⟩, hs1⟩ := en_vs_cons hs
  obtain ⟨x0, zs, rfl, ⟨x, rfl, hx⟩, hs2⟩ := en_vs_cons hs1
  have ey : y = 8 := (fa_eq _ _).mpr (by show y.toInt = 8; dsimp only at hy; omega)
  have ex : x = 2 := (fa_eq _ _).mpr (by show x.toInt = 2; dsimp only at hx; omega)
  subst ey
  subst ex
  have hts := C.2.2.2.2.1
  refine eg_mna (ty := .int) (N' := 2) (K' := 8) C.1 C.2.1 C.2.2.2.1 (hts _ (en_ws_in (en_rows_in (.classLink "LoadsAhead$Rows" 9 "[[I") List.mem_cons_self) rfl)) (over_moved (Vm.Alike.refl s.vm) C.2.2.2.2.2.2.2.2.1.2.2.2.2) (hts _ (en_ws_in (en_arr_in _ List.mem_cons_self) rfl)) hS (by decide) (by decide) rfl rfl (by decide) (by decide) (by decide) rfl rfl c2 c3 dr_8 (fun cA comp H1 fA fC ho hi hk hS1 => ?_)
  have hK := C.2.2.2.2.2.1
  obtain ⟨ca0, hca0⟩ := C.2.2.2.2.2.2.1.1 0 (by decide)
  obtain ⟨ca3, hca3⟩ := C.2.2.2.2.2.2.1.2
  have e0 : ca0 = comp := Option.some.inj (((hK.2 0 _ hca0).2 : s.vm.findClass _ = some ca0).symm.trans fC)
  have e3 : ca3 = cA := Option.some.inj (((hK.2 3 _ hca3).2 : s.vm.findClass _ = some ca3).symm.trans fA)
  rw [e0] at hca0
  rw [e3] at hca3
  have hb0 := C.2.2.2.2.2.2.2.1
  have hsz := hS.1
  have hW1 := hW.row hca0 hca3 hk ho hi (fun q (h : H.size ≤ q) => (by show b0 ≤ q; omega))
  have hag : ∀ k, k < T.length → en_up (en_up (en_up ad1 T.length (H.size + 1 + 0)) (T.length + 1) (H.size + 1 + 1)) (T.length + 2) H.size k = ad1 k := fun k hk => by rw [en_up_lt (by omega), en_up_lt (by omega), en_up_lt hk]
  have hN := eg_row_len T
  have hle : T.length ≤ T.length + 3 := Nat.le_add_right _ _
  exact k2 H1 locs ls (.ref H.size :: zs) _ ⟨by dsimp only; rw [hN]; exact en_l_mono hle hag hl, hn0, by dsimp only; rw [hN]; exact ⟨⟨by rw [en_up_at], Nat.lt_succ_self _⟩, en_vs_mono hle hag hs2⟩, hW1, hS1, by dsimp only; rw [hN]; omega, fun k hk => by rw [hag k (by omega)]; exact hr2 k hk⟩
