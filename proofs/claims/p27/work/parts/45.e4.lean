section EGM
variable {p : Program} {l : Launch} {e : Env} {R : Room} {s : State} {m : MethodId} {args : Array Value} {below : List Frame} {meth : Method} {c : Code} {H : Heap} {locs : List Loc} {cells slots : Nat} {Q : State → Prop}
variable {cc : ByteArray} {pc : Nat} {ls : Array Slot} {rest : List Value} {A : Nat → Prop} {H0 : Heap}
theorem eg_mna (hexec : p.tables.exec = Jvm.exec) (hb : c.code = cc) {own : String} {index : Nat} {ty : FieldType} (hown : s.vm.findClass own = some m.cls) (hclink : (Cond.classLink own index ("[" ++ (FieldType.array ty).toString)).before args s = true) (hover : (Cond.arrayOver (.array ty)).before args s = true) (harr : (Cond.arrayClass ty).before args s = true)
    (hS : va_S A H0 H locs) {n k : Int32} {N' K' : Nat} (hn : ¬ n < 0) (hk : ¬ k < 0) (hN : n.toNatClampNeg = N') (hM : k.toNatClampNeg = K')
    (hb1 : N' * 4 ≤ 536870912) (hb2 : K' * componentBytes ty ≤ 536870912) (hb3 : K' ≤ 536870912) (hdf : fits ty (defaultValue ty) = true) (hdd : (defaultValue ty).isDefault = true) (hcells : cells + (1 + N') ≤ R.cells) (hslots : slots + (N' + N' * K') ≤ R.slots) (hdg : decode cc pc = .ok (.multianewarray index 2, 4))
    (kk : ∀ (cA comp : ClassId) (H1 : Heap), s.vm.findClass ("[" ++ (FieldType.array ty).toString) = some cA → s.vm.findClass (FieldType.array ty).toString = some comp → H1[H.size]? = some (Jvm.Free.Multi.outerC cA N' H.size N') → (∀ j : Nat, j < N' → H1[H.size + 1 + j]? = some (Jvm.Free.Multi.innerC comp K' (defaultValue ty))) → (∀ x : Nat, x < H.size → H1[x]? = H[x]?) → va_S A H0 H1 locs → W p l e R s m args below meth c H1 locs (cells + 1 + N') (slots + N' + N' * K') Q (F0 m (pc + 4) ls (.ref H.size :: rest))) : W p l e R s m args below meth c H locs cells slots Q (F0 m pc ls (.int k :: .int n :: rest)) := by
  subst hN
  subst hM
  intro T hT Xs
  obtain ⟨vm₁, cA, comp, -, fA, fC, hO, -, X', step⟩ := Xs.multianewarray2F hexec hown hclink hover harr (g := F0 m pc ls (.int k :: .int n :: rest)) rfl (by rw [hb]; exact hdg) rfl hn hk hb1 hb2 hb3 hdf hdd hcells hslots
  generalize hF : Jvm.Free.Multi.fill (T.setVm vm₁) cA comp n.toNatClampNeg k.toNatClampNeg (defaultValue ty) n.toNatClampNeg = F at X' step
  have hTh : (T.setVm vm₁).heap = H := hT
  obtain ⟨f1, f2, -, -⟩ := Jvm.Free.Multi.fill_facts (T.setVm vm₁) cA comp n.toNatClampNeg k.toNatClampNeg (defaultValue ty) n.toNatClampNeg
  rw [hF, hTh] at f1 f2
  have hold : ∀ x : Nat, x < H.size → F.heap[x]? = H[x]? := fun x hx => by
    have := Jvm.Free.Multi.fill_old (T.setVm vm₁) cA comp n.toNatClampNeg k.toNatClampNeg (defaultValue ty) (a := x) (by rw [hTh]; exact hx) n.toNatClampNeg
    rw [hF, hTh] at this
    exact this
  have hin : ∀ j : Nat, j < n.toNatClampNeg → F.heap[H.size + 1 + j]? = some (Jvm.Free.Multi.innerC comp k.toNatClampNeg (defaultValue ty)) := fun j hj => by
    have := Jvm.Free.Multi.fill_inner (T.setVm vm₁) cA comp n.toNatClampNeg k.toNatClampNeg (defaultValue ty) n.toNatClampNeg j hj
    rw [hF, hTh] at this
    exact this
  obtain ⟨t, a1, b1⟩ := kk cA comp F.heap fA fC f2 hin hold ⟨by rw [f1]; have := hS.1; omega, fun x h1 h2 => (hold x (Nat.lt_of_lt_of_le h1 hS.1)).trans (hS.2.1 x h1 h2), hS.2.2⟩ F rfl X'
  refine ⟨t, step t ?_, b1⟩
  have e : T.heap.size = H.size := by rw [hT]
  rw [e]
  exact a1
end EGM
theorem eg_app {ws : va_W} {x q : Nat × va_E} {k : Nat} (h : (ws ++ [x])[k]? = some q) : ws[k]? = some q ∨ (k = ws.length ∧ q = x) := by
  by_cases hl : k < ws.length
  · rw [List.getElem?_append_left hl] at h
    exact Or.inl h
  · rw [List.getElem?_append_right (by omega)] at h
    have hz : k - ws.length < 1 := (List.getElem?_eq_some_iff.mp h).1
    have hk0 : k = ws.length := by omega
    subst hk0
    rw [Nat.sub_self] at h
    cases h
    exact Or.inr ⟨rfl, rfl⟩
theorem eg_Dp {A : Nat → Prop} {ws : va_W} {a : Nat} {e : va_E} (hD : va_D A ws) (hn : ∀ (k : Nat) (q : Nat × va_E), ws[k]? = some q → q.1 ≠ a) (hA : A a) : va_D A (ws ++ [(a, e)]) := by
  refine ⟨fun i j x y hi hj hxy => ?_, fun k q hk => ?_⟩
  · rcases eg_app hi with h1 | ⟨h1, h1'⟩ <;> rcases eg_app hj with h2 | ⟨h2, h2'⟩
    · exact hD.1 i j x y h1 h2 hxy
    · subst h2'; exact absurd hxy (hn i x h1)
    · subst h1'; exact absurd hxy.symm (hn j y h2)
    · rw [h1, h2]
  · rcases eg_app hk with h | ⟨_, h⟩
    · exact hD.2 k q h
    · subst h; exact hA
theorem eg_Pp {D : va_G} {cl : List vw_C} {ws : va_W} {H : Heap} {x : Nat × va_E} (hP : va_P D cl ws H) (he : va_at D cl x H) : va_P D cl (ws ++ [x]) H := fun k q hk => by
  rcases eg_app hk with h | ⟨_, h⟩
  · exact hP k q h
  · subst h; exact he
theorem ev_w_push {tys : List (ClassId × FieldType)} {T : en_T} {ad : Nat → Nat} {ws : va_W} {q : Nat} {e : va_E} {t : en_C} (h : ev_w tys T ad ws) (he : ev_c tys T.length ad t e) : ev_w tys (T ++ [t]) (en_up ad T.length q) (ws ++ [(q, e)]) := by
  obtain ⟨h1, h2⟩ := h
  refine ⟨by rw [List.length_append, List.length_append, h1]; rfl, fun j u hj => ?_⟩
  rw [List.length_append]
  by_cases hl : j < T.length
  · rw [List.getElem?_append_left hl] at hj
    obtain ⟨e0, g1, g2⟩ := h2 j u hj
    refine ⟨e0, ?_, eg_c_mono (Nat.le_add_right _ _) (fun k hk => en_up_lt hk) g2⟩
    rw [List.getElem?_append_left (by omega), en_up_lt hl]
    exact g1
  · rw [List.getElem?_append_right (by omega)] at hj
    have hz : j - T.length < 1 := (List.getElem?_eq_some_iff.mp hj).1
    have hj0 : j = T.length := by omega
    subst hj0
    rw [Nat.sub_self] at hj
    cases hj
    refine ⟨e, ?_, eg_c_mono (Nat.le_add_right _ _) (fun k hk => en_up_lt hk) he⟩
    rw [List.getElem?_append_right (by omega), h1, Nat.sub_self, en_up_at]
    rfl
theorem eg_inC (comp : ClassId) : Jvm.Free.Multi.innerC comp 8 (defaultValue .int) = vp_cell comp (8, .inl (fun _ => 0)) := by
  rw [vp_cell_i]
  rfl
theorem eg_outC (cA : ClassId) (h : Nat) : Jvm.Free.Multi.outerC cA 2 h 2 = vp_cell cA (2, .inr (.inr (.inr (.inr (fun j => some (h + 1 + j)))))) := by
  rw [vp_cell_q]
  rfl
def eg_row (T : en_T) : en_T := T ++ [.inl (0, 8, 0, 0)] ++ [.inl (0, 8, 0, 0)] ++ [.inl (3, 2, (T.length : Int), 0)]
theorem eg_row_len (T : en_T) : (eg_row T).length = T.length + 3 := by
  unfold eg_row
  rw [List.length_append, List.length_append, List.length_append]
  rfl
theorem eg_W.row {D : va_G} {tys : List (ClassId × FieldType)} {A : Nat → Prop} {T : en_T} {ad : Nat → Nat} {H H1 : Heap} {cA comp : ClassId} (hW : eg_W D tys A T ad H) (h0 : tys[0]? = some (comp, .int)) (h3 : tys[3]? = some (cA, .array .int)) (hk : ∀ x : Nat, x < H.size → H1[x]? = H[x]?) (ho : H1[H.size]? = some (Jvm.Free.Multi.outerC cA 2 H.size 2)) (hi : ∀ j : Nat, j < 2 → H1[H.size + 1 + j]? = some (Jvm.Free.Multi.innerC comp 8 (defaultValue .int))) (hA : ∀ q, H.size ≤ q → A q) :
    eg_W D tys A (eg_row T) (en_up (en_up (en_up ad T.length (H.size + 1 + 0)) (T.length + 1) (H.size + 1 + 1)) (T.length + 2) H.size) H1 := by
  obtain ⟨ws, w1, w2, w3, w4⟩ := hW
  have lt0 : ∀ (k : Nat) (q : Nat × va_E), ws[k]? = some q → q.1 < H.size := fun k q h => (w3 k q h).lt
  have P0 : va_P D vwCl ws H1 := w3.kept (fun k q h => hk q.1 (lt0 k q h))
  have ein : ∀ j : Nat, j < 2 → va_at D vwCl (H.size + 1 + j, .inl (comp, 8, .inl (fun _ => 0))) H1 := fun j hj => by
    show H1[H.size + 1 + j]? = some (vp_cell comp (8, .inl (fun _ => 0)))
    rw [hi j hj, eg_inC]
  have eout : va_at D vwCl (H.size, .inl (cA, 2, .inr (.inr (.inr (.inr (fun j => some (H.size + 1 + j))))))) H1 := by
    show H1[H.size]? = some (vp_cell cA (2, .inr (.inr (.inr (.inr (fun j => some (H.size + 1 + j)))))))
    rw [ho, eg_outC]
  have c0 : ∀ N ad, ev_c tys N ad (.inl (0, 8, 0, 0)) (.inl (comp, 8, .inl (fun _ => 0))) := fun N ad => ec_arr (show (0 : Nat) ≠ 3 by decide) ⟨comp, _, rfl, h0, fun j hj => ⟨Int.le_refl _, Int.le_refl _⟩⟩
  have P1 := eg_Pp P0 (ein 0 (by decide))
  have D1 := eg_Dp (e := .inl (comp, 8, .inl (fun _ => 0))) w4 (a := H.size + 1 + 0) (fun k q h => by have := lt0 k q h; omega) (hA _ (by omega))
  have lt1 : ∀ (k : Nat) (q : Nat × va_E), (ws ++ [(H.size + 1 + 0, .inl (comp, 8, .inl (fun _ => 0)))])[k]? = some q → q.1 < H.size ∨ q.1 = H.size + 1 := fun k q h => by
    rcases eg_app h with h | ⟨_, h⟩
    · exact Or.inl (lt0 k q h)
    · rw [h]; exact Or.inr rfl
  have P2 := eg_Pp P1 (ein 1 (by decide))
  have D2 := eg_Dp (e := .inl (comp, 8, .inl (fun _ => 0))) D1 (a := H.size + 1 + 1) (fun k q h => by have := lt1 k q h; omega) (hA _ (by omega))
  have lt2 : ∀ (k : Nat) (q : Nat × va_E), (ws ++ [(H.size + 1 + 0, .inl (comp, 8, .inl (fun _ => 0)))] ++ [(H.size + 1 + 1, .inl (comp, 8, .inl (fun _ => 0)))])[k]? = some q → q.1 < H.size ∨ H.size < q.1 := fun k q h => by
    rcases eg_app h with h | ⟨_, h⟩
    · have := lt1 k q h; omega
    · rw [h]; exact Or.inr (by show H.size < H.size + 1 + 1; omega)
  have P3 := eg_Pp P2 eout
  have D3 := eg_Dp (e := .inl (cA, 2, .inr (.inr (.inr (.inr (fun j => some (H.size + 1 + j))))))) D2 (a := H.size) (fun k q h => by have := lt2 k q h; omega) (hA _ (Nat.le_refl _))
  have n1 : (T ++ [.inl (0, 8, 0, 0)] : en_T).length = T.length + 1 := by rw [List.length_append]; rfl
  have n2 : (T ++ [.inl (0, 8, 0, 0)] ++ [.inl (0, 8, 0, 0)] : en_T).length = T.length + 2 := by rw [List.length_append, n1]; rfl
  have V1 := ev_w_push (q := H.size + 1 + 0) ⟨w1, w2⟩ (c0 T.length ad)
  have V2 := ev_w_push (q := H.size + 1 + 1) V1 (c0 _ _)
  have V3 := ev_w_push (q := H.size) (t := .inl (3, 2, (T.length : Int), 0)) (e := .inl (cA, 2, .inr (.inr (.inr (.inr (fun j => some (H.size + 1 + j))))))) V2 (by
    unfold ev_c
    dsimp only
    rw [if_pos rfl]
    refine ⟨cA, _, rfl, h3, fun j hj => ?_⟩
    rw [Int.toNat_natCast, n1, n2]
    match j, hj with
    | 0, _ => exact ⟨by rw [en_up_lt (by omega)]; exact congrArg some en_up_at.symm, by omega⟩
    | 1, _ => exact ⟨by rw [en_up_at], by omega⟩
    | k + 2, h => omega)
  rw [n1, n2] at V3
  exact ⟨_, V3.1, V3.2, P3, D3⟩
set_option maxHeartbeats 4000000 in
theorem eg_rowsmake (l : Launch) {κ : en_K} {L : en_L} {S : List en_V} {T : en_T} {cs sl : Nat} (hm : κ.1 = 9) (hc : (decide (κ.2.1.length ≤ 1) && (decide (cs + 3 ≤ k_mc κ) && decide (sl + 18 ≤ k_ms κ))) = true)
    (h1 : en_chk 5 prog_7_method_1_code [] (k_fr κ, k_lo κ, k_mc κ, k_ms κ) true none (k_rv κ) (k_T1 κ) [(8, L, .inl (8, 8) :: .inl (2, 2) :: S, T, cs, sl)] 100 (en_start κ 1) = true)
    (h2 : en_chk 5 prog_7_method_1_code [] (k_fr κ, k_lo κ, k_mc κ, k_ms κ) true none (k_rv κ) (k_T1 κ) [] 100 (12, L, .inr (T.length + 2 + 2) :: S, eg_row T, cs + 3, sl + 18) = true) : en_ok l κ := by
  simp only [Bool.and_eq_true, decide_eq_true_eq] at hc
  obtain ⟨c1, c2, c3⟩ := hc
  refine en_ok_of (r := (yX5_init, prog_7_method_1_code, 1, none)) (o := 5) (by rw [hm]; exact en_mt_9) (by rw [hm]; exact en_mo_9) (by decide) c1 ?_
  intro p e s m args below meth c D tys aK aV b0 ad C hret hnm
  have hK0 : ∀ κ' ∈ ([] : List en_K), en_ok l κ' := fun _ h => absurd h List.not_mem_nil
  have k2 := en_chk_ok (Q := MQ below (en_qc D tys b0 (k_T0 κ).length ad (k_rv κ) (k_T1 κ)) args s (k_mc κ) (k_ms κ) (fun q => b0 ≤ q)) (R := en_rm κ) (p := p) (l := l) (e := e) (below := below) C hK0 ⟨rfl, rfl, rfl, rfl⟩ (fun _ => hnm) hret rfl (fun x hx => absurd hx List.not_mem_nil) 100 _ h2
  refine en_chk_ok (R := en_rm κ) C hK0 ⟨rfl, rfl, rfl, rfl⟩ (fun _ => hnm) hret rfl (fun x hx => ?_) 100 _ h1
  rw [List.mem_singleton.mp hx]
  intro H locs ls stk ad1 hh
  dsimp only at hh
  obtain ⟨hl, hn0, hs, hW, hS, hr, hr2⟩ := hh
  obtain ⟨y0, ys, rfl, ⟨y, rfl, hy⟩, hs1⟩ := en_vs_cons hs
  obtain ⟨x0, zs, rfl, ⟨x, rfl, hx⟩, hs2⟩ := en_vs_cons hs1
  have ey : y = 8 := (fa_eq _ _).mpr (by show y.toInt = 8; dsimp only at hy; omega)
  have ex : x = 2 := (fa_eq _ _).mpr (by show x.toInt = 2; dsimp only at hx; omega)
  subst ey
  subst ex
  have hts := C.2.2.2.2.1
  refine eg_mna (ty := .int) (N' := 2) (K' := 8) C.1 C.2.1 C.2.2.2.1 (hts _ (en_ws_in (en_rows_in (.classLink "LoadsAhead$Rows" 9 "[[I") List.mem_cons_self) rfl)) (over_moved (Vm.Alike.refl s.vm) C.2.2.2.2.2.2.2.2.1.2.2.2.2) (hts _ (en_ws_in (en_arr_in _ List.mem_cons_self) rfl)) hS (by decide) (by decide) rfl rfl (by decide) (by decide) (by decide) rfl rfl c2 c3 dr_8 (fun cA comp H1 fA fC ho hi hk hS1 => ?_)
  have hK := C.2.2.2.2.2.1
  obtain ⟨ca0, hca0⟩ := C.2.2.2.2.2.2.1.1 0 (by decide)
  obtain ⟨ca3, hca3⟩ := C.2.2.2.2.2.2.1.2
  have e0 : ca0 = comp := Option.some.inj (((hK.2 0 _ hca0).2 : s.vm.findClass _ = some ca0).symm.trans fC)
  have e3 : ca3 = cA := Option.some.inj (((hK.2 3 _ hca3).2 : s.vm.findClass _ = some ca3).symm.trans fA)
  rw [e0] at hca0
  rw [e3] at hca3
  have hb0 := C.2.2.2.2.2.2.2.1
  have hsz := hS.1
  have hW1 := hW.row hca0 hca3 hk ho hi (fun q (h : H.size ≤ q) => (by show b0 ≤ q; omega))
  have hag : ∀ k, k < T.length → en_up (en_up (en_up ad1 T.length (H.size + 1 + 0)) (T.length + 1) (H.size + 1 + 1)) (T.length + 2) H.size k = ad1 k := fun k hk => by rw [en_up_lt (by omega), en_up_lt (by omega), en_up_lt hk]
  have hN := eg_row_len T
  have hle : T.length ≤ T.length + 3 := Nat.le_add_right _ _
  exact k2 H1 locs ls (.ref H.size :: zs) _ ⟨by dsimp only; rw [hN]; exact en_l_mono hle hag hl, hn0, by dsimp only; rw [hN]; exact ⟨⟨by rw [en_up_at], Nat.lt_succ_self _⟩, en_vs_mono hle hag hs2⟩, hW1, hS1, by dsimp only; rw [hN]; omega, fun k hk => by rw [hag k (by omega)]; exact hr2 k hk⟩
def tW_0 : en_T := [.inr (8, [.inr 1, .inr 1, .inr 1, .inr 1, .inr 1, .inr 1, .inr 1, .inr 1, .inl (0, 0), .inl (0, 0), .inl (0, 0)]), .inr (7, [.inr 1, .inl (0, 0), .inl (0, 0), .inl (0, 0), .inl (0, 0)])]
def tW_1 : en_T := (tW_0).set 1 (.inr (7, [.inr 4, .inl (0, 0), .inl (0, 0), .inl (0, 0), .inl (0, 0)])) ++ [.inl (0, 260, 0, 0)]
def tW_2 : en_T := (tW_1).set 0 (.inr (8, [.inr 3, .inr 1, .inr 1, .inr 1, .inr 1, .inr 1, .inr 1, .inr 1, .inl (0, 0), .inl (0, 0), .inl (0, 0)])) ++ [.inr (1, [.inr 1, .inr 1, .inr 1, .inr 1, .inr 1, .inr 1, .inr 1, .inr 1, .inr 1, .inr 1, .inr 1, .inl (0, 0)]), .inr (3, [.inr 1, .inr 1, .inr 1, .inr 1, .inr 1, .inr 1, .inr 1, .inr 1, .inr 1, .inr 1, .inr 1, .inl (0, 0), .inl (0, 0)])]
def tW_3 : en_T := (tW_2).set 4 (.inr (3, [.inr 7, .inr 8, .inr 9, .inr 10, .inr 11, .inr 12, .inr 13, .inr 14, .inr 15, .inr 16, .inr 17, .inl (0, 0), .inl (0, 0)])) ++ [.inl (0, 20, 0, 0), .inl (0, 20, 0, 0), .inl (0, 20, 0, 0), .inl (0, 20, 0, 0), .inl (0, 20, 0, 0), .inl (0, 20, 0, 0), .inl (0, 20, 0, 0), .inl (0, 20, 0, 0), .inl (0, 20, 0, 0), .inl (0, 8, 0, 0), .inl (0, 20, 0, 0)]
def tW_4 : en_T := (tW_3).set 3 (.inr (1, [.inr 6, .inr 1, .inr 1, .inr 1, .inr 1, .inr 1, .inr 1, .inr 1, .inr 1, .inr 1, .inr 1, .inl (0, 0)])) ++ [.inr (0, [.inr 1, .inr 1, .inr 1, .inr 1, .inr 1, .inr 1, .inr 1, .inl (0, 0), .inl (0, 0)])]
def tW_5 : en_T := (tW_4).set 16 (.inr (0, [.inr 19, .inr 20, .inr 21, .inr 22, .inr 23, .inr 24, .inr 25, .inl (0, 0), .inl (0, 0)])) ++ [.inl (0, 16, 0, 0), .inl (0, 17, 0, 0), .inl (0, 16, 0, 0), .inl (0, 240, 0, 0), .inl (0, 240, 0, 0), .inl (0, 7, 0, 0), .inl (0, 64, 0, 0)]
def tW_6 : en_T := (tW_5).set 3 (.inr (1, [.inr 6, .inr 18, .inr 1, .inr 1, .inr 1, .inr 1, .inr 1, .inr 1, .inr 1, .inr 1, .inr 1, .inl (0, 0)])) ++ [.inr (6, [.inr 27, .inr 28, .inr 29, .inl (0, 0), .inl (0, 0), .inl (0, 0)]), .inl (0, 8, 0, 0), .inl (0, 64, 0, 0), .inl (0, 20, 0, 0)]
def tW_7 : en_T := (tW_6).set 27 (.inl (0, 20, (-1), (-1)))
def tW_8 : en_T := (tW_5).set 3 (.inr (1, [.inr 6, .inr 18, .inr 1, .inr 1, .inr 1, .inr 1, .inr 1, .inr 1, .inr 1, .inr 1, .inr 1, .inl (0, 0)])) ++ [.inr (6, [.inr 1, .inr 1, .inr 1, .inl (0, 0), .inl (0, 0), .inl (0, 0)])]
def tW_9 : en_T := (tW_7).set 24 (.inr (6, [.inr 27, .inr 28, .inr 29, .inl (0, 0), .inl (0, 0), .inl (1, 1)]))
def tW_10 : en_T := (tW_9).set 3 (.inr (1, [.inr 6, .inr 18, .inr 26, .inr 1, .inr 1, .inr 1, .inr 1, .inr 1, .inr 1, .inr 1, .inr 1, .inl (0, 0)])) ++ [.inr (6, [.inr 31, .inr 32, .inr 33, .inl (0, 0), .inl (0, 0), .inl (0, 0)]), .inl (0, 8, 0, 0), .inl (0, 64, 0, 0), .inl (0, 20, 0, 0)]
def tW_11 : en_T := (tW_10).set 31 (.inl (0, 20, (-1), (-1)))
def tW_12 : en_T := (tW_9).set 3 (.inr (1, [.inr 6, .inr 18, .inr 26, .inr 1, .inr 1, .inr 1, .inr 1, .inr 1, .inr 1, .inr 1, .inr 1, .inl (0, 0)])) ++ [.inr (6, [.inr 1, .inr 1, .inr 1, .inl (0, 0), .inl (0, 0), .inl (0, 0)])]
def tW_13 : en_T := (tW_11).set 28 (.inr (6, [.inr 31, .inr 32, .inr 33, .inl (0, 0), .inl (0, 0), .inl (1, 1)]))
def tW_14 : en_T := (tW_13).set 3 (.inr (1, [.inr 6, .inr 18, .inr 26, .inr 30, .inr 1, .inr 1, .inr 1, .inr 1, .inr 1, .inr 1, .inr 1, .inl (0, 0)])) ++ [.inr (4, [.inr 1, .inr 1, .inr 1, .inr 1, .inr 1, .inr 1])]
def tW_15 : en_T := (tW_14).set 32 (.inr (4, [.inr 35, .inr 36, .inr 37, .inr 38, .inr 39, .inr 40])) ++ [.inl (0, 6, 0, 0), .inl (0, 20, 0, 0), .inl (0, 20, 0, 0), .inl (0, 20, 0, 0), .inl (0, 20, 0, 0), .inl (0, 80, 0, 0)]
def tW_16 : en_T := (tW_1).set 0 (.inr (8, [.inr 3, .inr 1, .inr 1, .inr 1, .inr 1, .inr 1, .inr 1, .inr 1, .inl (0, 0), .inl (0, 0), .inl (0, 0)])) ++ [.inr (1, [.inr 1, .inr 1, .inr 1, .inr 1, .inr 1, .inr 1, .inr 1, .inr 1, .inr 1, .inr 1, .inr 1, .inl (0, 0)])]
def tW_17 : en_T := (tW_15).set 3 (.inr (1, [.inr 6, .inr 18, .inr 26, .inr 30, .inr 34, .inr 41, .inr 42, .inr 43, .inr 44, .inr 45, .inr 46, .inl (0, 0)])) ++ [.inl (0, 20, 0, 0), .inl (0, 20, 0, 0), .inl (1, 20, 0, 0), .inl (0, 80, 0, 0), .inl (0, 20, 0, 0), .inl (0, 20, 0, 0)]
def tW_18 : en_T := (tW_17).set 0 (.inr (8, [.inr 3, .inr 5, .inr 1, .inr 1, .inr 1, .inr 1, .inr 1, .inr 1, .inl (0, 0), .inl (0, 0), .inl (0, 0)])) ++ [.inr (3, [.inr 1, .inr 1, .inr 1, .inr 1, .inr 1, .inr 1, .inr 1, .inr 1, .inr 1, .inr 1, .inr 1, .inl (0, 0), .inl (0, 0)])]
def tW_19 : en_T := (tW_18).set 45 (.inr (3, [.inr 48, .inr 49, .inr 50, .inr 51, .inr 52, .inr 53, .inr 54, .inr 55, .inr 56, .inr 57, .inr 58, .inl (0, 0), .inl (0, 0)])) ++ [.inl (0, 20, 0, 0), .inl (0, 20, 0, 0), .inl (0, 20, 0, 0), .inl (0, 20, 0, 0), .inl (0, 20, 0, 0), .inl (0, 20, 0, 0), .inl (0, 20, 0, 0), .inl (0, 20, 0, 0), .inl (0, 20, 0, 0), .inl (0, 8, 0, 0), .inl (0, 20, 0, 0)]
def tW_20 : en_T := (tW_19).set 0 (.inr (8, [.inr 3, .inr 5, .inr 47, .inr 1, .inr 1, .inr 1, .inr 1, .inr 1, .inl (0, 0), .inl (0, 0), .inl (0, 0)])) ++ [.inr (0, [.inr 1, .inr 1, .inr 1, .inr 1, .inr 1, .inr 1, .inr 1, .inl (0, 0), .inl (0, 0)])]
def tW_21 : en_T := (tW_20).set 57 (.inr (0, [.inr 60, .inr 61, .inr 62, .inr 63, .inr 64, .inr 65, .inr 66, .inl (0, 0), .inl (0, 0)])) ++ [.inl (0, 16, 0, 0), .inl (0, 17, 0, 0), .inl (0, 16, 0, 0), .inl (0, 240, 0, 0), .inl (0, 240, 0, 0), .inl (0, 7, 0, 0), .inl (0, 64, 0, 0)]
def tW_22 : en_T := (tW_21).set 0 (.inr (8, [.inr 3, .inr 5, .inr 47, .inr 59, .inr 1, .inr 1, .inr 1, .inr 1, .inl (0, 0), .inl (0, 0), .inl (0, 0)])) ++ [.inr (2, [.inr 1, .inr 1]), .inr (6, [.inr 69, .inr 70, .inr 71, .inl (0, 0), .inl (0, 0), .inl (0, 0)]), .inl (0, 8, 0, 0), .inl (0, 64, 0, 0), .inl (0, 20, 0, 0)]
def tW_23 : en_T := (tW_22).set 69 (.inl (0, 20, (-1), (-1)))
def tW_24 : en_T := (tW_21).set 0 (.inr (8, [.inr 3, .inr 5, .inr 47, .inr 59, .inr 1, .inr 1, .inr 1, .inr 1, .inl (0, 0), .inl (0, 0), .inl (0, 0)])) ++ [.inr (2, [.inr 1, .inr 1]), .inr (6, [.inr 1, .inr 1, .inr 1, .inl (0, 0), .inl (0, 0), .inl (0, 0)])]
def tW_25 : en_T := (tW_23).set 66 (.inr (6, [.inr 69, .inr 70, .inr 71, .inl (0, 0), .inl (0, 0), .inl (1, 1)]))
def tW_26 : en_T := (tW_21).set 0 (.inr (8, [.inr 3, .inr 5, .inr 47, .inr 59, .inr 1, .inr 1, .inr 1, .inr 1, .inl (0, 0), .inl (0, 0), .inl (0, 0)])) ++ [.inr (2, [.inr 1, .inr 1])]
def tW_27 : en_T := (tW_25).set 65 (.inr (2, [.inr 68, .inr 72])) ++ [.inl (0, 20, 0, 0)]
def tW_28 : en_T := (tW_27).set 0 (.inr (8, [.inr 3, .inr 5, .inr 47, .inr 59, .inr 67, .inr 1, .inr 1, .inr 1, .inl (0, 0), .inl (0, 0), .inl (0, 0)])) ++ [.inr (4, [.inr 1, .inr 1, .inr 1, .inr 1, .inr 1, .inr 1])]
def tW_29 : en_T := (tW_28).set 71 (.inr (4, [.inr 74, .inr 75, .inr 76, .inr 77, .inr 78, .inr 79])) ++ [.inl (0, 6, 0, 0), .inl (0, 20, 0, 0), .inl (0, 20, 0, 0), .inl (0, 20, 0, 0), .inl (0, 20, 0, 0), .inl (0, 80, 0, 0)]
def tW_30 : en_T := (tW_29).set 0 (.inr (8, [.inr 3, .inr 5, .inr 47, .inr 59, .inr 67, .inr 73, .inr 1, .inr 1, .inl (0, 0), .inl (0, 0), .inl (0, 0)])) ++ [.inr (6, [.inr 81, .inr 82, .inr 83, .inl (0, 0), .inl (0, 0), .inl (0, 0)]), .inl (0, 8, 0, 0), .inl (0, 64, 0, 0), .inl (0, 20, 0, 0)]
def tW_31 : en_T := (tW_30).set 81 (.inl (0, 20, (-1), (-1)))
def tW_32 : en_T := (tW_29).set 0 (.inr (8, [.inr 3, .inr 5, .inr 47, .inr 59, .inr 67, .inr 73, .inr 1, .inr 1, .inl (0, 0), .inl (0, 0), .inl (0, 0)])) ++ [.inr (6, [.inr 1, .inr 1, .inr 1, .inl (0, 0), .inl (0, 0), .inl (0, 0)])]
def tW_33 : en_T := (tW_31).set 78 (.inr (6, [.inr 81, .inr 82, .inr 83, .inl (0, 0), .inl (0, 0), .inl (1, 1)]))
def tW_34 : en_T := (tW_33).set 0 (.inr (8, [.inr 3, .inr 5, .inr 47, .inr 59, .inr 67, .inr 73, .inr 80, .inr 1, .inl (0, 0), .inl (0, 0), .inl (0, 0)])) ++ [.inr (5, [.inr 1, .inr 1, .inl (0, 0)])]
def tW_35 : en_T := (tW_34).set 82 (.inr (5, [.inr 87, .inr 88, .inl (0, 0)])) ++ [.inl (0, 8, 0, 0), .inl (0, 8, 0, 0), .inl (3, 2, 83, 0), .inl (0, 2, 0, 0)]
def tW_36 : en_T := [.inr (8, [.inr 1, .inr 1, .inr 1, .inr 1, .inr 1, .inr 1, .inr 1, .inr 1, .inl (0, 0), .inl (0, 0), .inl (0, 0)])]
def tW_37 : en_T := (tW_35).set 0 (.inr (8, [.inr 3, .inr 5, .inr 47, .inr 59, .inr 67, .inr 73, .inr 80, .inr 84, .inl (0, 0), .inl (0, 0), .inl (0, 0)]))
def tW_38 : en_T := tW_37 ++ [.inr (9, [.inl (0, 0), .inl (0, 0), .inl (0, 0), .inl (0, 0), .inl (0, 0), .inl (0, 0), .inr 1, .inr 1, .inr 1, .inr 1, .inr 1, .inr 1, .inr 1, .inr 1, .inr 1, .inr 1, .inr 1, .inr 1, .inl (0, 0), .inl (0, 0), .inl (0, 0), .inl (0, 0), .inl (0, 0), .inl (0, 0), .inl (0, 0), .inl (0, 0), .inl (0, 0), .inl (0, 0), .inr 1, .inr 1, .inr 1, .inr 1, .inr 1, .inr 1, .inr 1, .inr 1, .inr 1, .inr 1, .inr 1, .inr 1, .inr 1, .inl (0, 0), .inr 1, .inr 1, .inr 1, .inr 1, .inr 1, .inr 1, .inr 1, .inr 1, .inr 1, .inr 1, .inr 1, .inr 1, .inr 1, .inr 1, .inr 1, .inr 1, .inr 1, .inr 1, .inr 1, .inr 1, .inr 1, .inl (0, 0), .inl (0, 0), .inl (0, 0), .inl (0, 0), .inl (0, 0), .inl (0, 0), .inl (0, 0), .inl (0, 0), .inr 1, .inl (0, 0), .inr 1, .inr 1, .inl (0, 0), .inr 1, .inr 1, .inr 1, .inr 1, .inr 1, .inr 1, .inr 1, .inr 1, .inr 1, .inr 1, .inr 1, .inr 1, .inl (0, 0), .inl (0, 0), .inl (0, 0), .inl (0, 0), .inl (0, 0), .inr 1, .inr 1, .inr 1])]
def tW_39 : en_T := [.inr (8, [.inr 3, .inr 5, .inr 47, .inr 59, .inr 67, .inr 73, .inr 80, .inr 84, .inl (0, 0), .inl (0, 0), .inl (0, 0)]), .inr (7, [.inr 4, .inl (0, 0), .inl (0, 0), .inl (0, 0), .inl (0, 0)]), .inl (0, 260, 0, 0), .inr (1, [.inr 6, .inr 18, .inr 26, .inr 30, .inr 34, .inr 41, .inr 42, .inr 43, .inr 44, .inr 45, .inr 46, .inl (0, 0)]), .inr (3, [.inr 7, .inr 8, .inr 9, .inr 10, .inr 11, .inr 12, .inr 13, .inr 14, .inr 15, .inr 16, .inr 17, .inl (0, 0), .inl (0, 0)]), .inl (0, 20, 0, 0), .inl (0, 20, 0, 0), .inl (0, 20, 0, 0), .inl (0, 20, 0, 0), .inl (0, 20, 0, 0), .inl (0, 20, 0, 0), .inl (0, 20, 0, 0), .inl (0, 20, 0, 0), .inl (0, 20, 0, 0), .inl (0, 8, 0, 0), .inl (0, 20, 0, 0), .inr (0, [.inr 19, .inr 20, .inr 21, .inr 22, .inr 23, .inr 24, .inr 25, .inl (0, 0), .inl (0, 0)]), .inl (0, 16, 0, 0), .inl (0, 17, 0, 0), .inl (0, 16, 0, 0), .inl (0, 240, 0, 0), .inl (0, 240, 0, 0), .inl (0, 7, 0, 0), .inl (0, 64, 0, 0), .inr (6, [.inr 27, .inr 28, .inr 29, .inl (0, 0), .inl (0, 0), .inl (1, 1)]), .inl (0, 8, 0, 0), .inl (0, 64, 0, 0), .inl (0, 20, (-1), (-1)), .inr (6, [.inr 31, .inr 32, .inr 33, .inl (0, 0), .inl (0, 0), .inl (1, 1)]), .inl (0, 8, 0, 0), .inl (0, 64, 0, 0), .inl (0, 20, (-1), (-1)), .inr (4, [.inr 35, .inr 36, .inr 37, .inr 38, .inr 39, .inr 40]), .inl (0, 6, 0, 0), .inl (0, 20, 0, 0), .inl (0, 20, 0, 0), .inl (0, 20, 0, 0), .inl (0, 20, 0, 0), .inl (0, 80, 0, 0), .inl (0, 20, 0, 0), .inl (0, 20, 0, 0), .inl (1, 20, 0, 0), .inl (0, 80, 0, 0), .inl (0, 20, 0, 0), .inl (0, 20, 0, 0), .inr (3, [.inr 48, .inr 49, .inr 50, .inr 51, .inr 52, .inr 53, .inr 54, .inr 55, .inr 56, .inr 57, .inr 58, .inl (0, 0), .inl (0, 0)]), .inl (0, 20, 0, 0), .inl (0, 20, 0, 0), .inl (0, 20, 0, 0), .inl (0, 20, 0, 0), .inl (0, 20, 0, 0), .inl (0, 20, 0, 0), .inl (0, 20, 0, 0), .inl (0, 20, 0, 0), .inl (0, 20, 0, 0), .inl (0, 8, 0, 0), .inl (0, 20, 0, 0), .inr (0, [.inr 60, .inr 61, .inr 62, .inr 63, .inr 64, .inr 65, .inr 66, .inl (0, 0), .inl (0, 0)]), .inl (0, 16, 0, 0), .inl (0, 17, 0, 0), .inl (0, 16, 0, 0), .inl (0, 240, 0, 0), .inl (0, 240, 0, 0), .inl (0, 7, 0, 0), .inl (0, 64, 0, 0), .inr (2, [.inr 68, .inr 72]), .inr (6, [.inr 69, .inr 70, .inr 71, .inl (0, 0), .inl (0, 0), .inl (1, 1)]), .inl (0, 8, 0, 0), .inl (0, 64, 0, 0), .inl (0, 20, (-1), (-1)), .inl (0, 20, 0, 0), .inr (4, [.inr 74, .inr 75, .inr 76, .inr 77, .inr 78, .inr 79]), .inl (0, 6, 0, 0), .inl (0, 20, 0, 0), .inl (0, 20, 0, 0), .inl (0, 20, 0, 0), .inl (0, 20, 0, 0), .inl (0, 80, 0, 0), .inr (6, [.inr 81, .inr 82, .inr 83, .inl (0, 0), .inl (0, 0), .inl (1, 1)]), .inl (0, 8, 0, 0), .inl (0, 64, 0, 0), .inl (0, 20, (-1), (-1)), .inr (5, [.inr 87, .inr 88, .inl (0, 0)]), .inl (0, 8, 0, 0), .inl (0, 8, 0, 0), .inl (3, 2, 83, 0), .inl (0, 2, 0, 0), .inr (9, [.inl (1, 1), .inl (0, 0), .inl (0, 0), .inl (0, 0), .inl (0, 0), .inl (0, 0), .inr 90, .inr 91, .inr 92, .inr 93, .inr 94, .inr 95, .inr 96, .inr 97, .inr 98, .inr 99, .inr 100, .inr 101, .inl (0, 0), .inl (0, 0), .inl (0, 0), .inl (0, 0), .inl (0, 0), .inl (0, 0), .inl (0, 0), .inl (0, 0), .inl (0, 0), .inl (0, 0), .inr 102, .inr 103, .inr 104, .inr 105, .inr 106, .inr 107, .inr 108, .inr 109, .inr 110, .inr 111, .inr 112, .inr 113, .inr 114, .inl (0, 0), .inr 115, .inr 116, .inr 117, .inr 118, .inr 119, .inr 120, .inr 121, .inr 122, .inr 123, .inr 124, .inr 125, .inr 126, .inr 127, .inr 128, .inr 129, .inr 130, .inr 131, .inr 132, .inr 133, .inr 134, .inr 135, .inl (0, 0), .inl (0, 0), .inl (0, 0), .inl (0, 0), .inl (0, 0), .inl (0, 0), .inl (0, 0), .inl (0, 0), .inr 136, .inl (0, 0), .inr 137, .inr 138, .inl (0, 0), .inr 139, .inr 140, .inr 141, .inr 142, .inr 143, .inr 144, .inr 145, .inr 146, .inr 147, .inr 148, .inr 149, .inr 150, .inl (0, 0), .inl (0, 0), .inl (0, 0), .inl (0, 0), .inl (0, 0), .inr 151, .inr 152, .inr 153]), .inl (0, 8, 0, 0), .inl (0, 64, 0, 0), .inl (0, 20, 0, 0), .inl (0, 20, 0, 0), .inl (0, 20, 0, 0), .inl (0, 20, 0, 0), .inl (0, 20, 0, 0), .inl (0, 20, 0, 0), .inl (0, 20, 0, 0), .inl (0, 20, 0, 0), .inl (0, 20, 0, 0), .inl (2, 260, 0, 0), .inl (0, 260, 0, 0), .inl (0, 260, 0, 0), .inl (0, 16, 0, 0), .inl (0, 16, 0, 0), .inl (0, 16, 0, 0), .inl (0, 16, 0, 0), .inl (0, 260, 0, 0), .inl (0, 16, 0, 0), .inl (0, 16, 0, 0), .inl (0, 16, 0, 0), .inl (0, 16, 0, 0), .inl (0, 260, 0, 0), .inl (0, 7, 0, 0), .inl (0, 20, 0, 0), .inl (0, 20, 0, 0), .inl (0, 20, 0, 0), .inl (0, 20, 0, 0), .inl (0, 20, 0, 0), .inl (0, 20, 0, 0), .inl (0, 20, 0, 0), .inl (0, 20, 0, 0), .inl (0, 20, 0, 0), .inl (0, 20, 0, 0), .inl (0, 20, 0, 0), .inl (0, 20, 0, 0), .inl (0, 20, 0, 0), .inl (0, 20, 0, 0), .inl (0, 80, 0, 0), .inl (0, 80, 0, 0), .inl (1, 20, 0, 0), .inl (0, 64, 0, 0), .inl (0, 64, 0, 0), .inl (0, 20, 0, 0), .inl (0, 8, 0, 0), .inl (0, 400, 0, 0), .inl (0, 20, 0, 0), .inl (0, 20, 0, 0), .inl (0, 6, 0, 0), .inl (0, 20, 0, 0), .inl (0, 20, 0, 0), .inl (0, 20, 0, 0), .inl (0, 20, 0, 0), .inl (0, 80, 0, 0), .inl (0, 8, 0, 0), .inl (0, 64, 0, 0), .inl (0, 20, 0, 0), .inl (0, 20, 0, 0), .inl (0, 16, 0, 0), .inl (0, 2, 0, 0), .inl (0, 8, 0, 0), .inl (0, 64, 0, 0), .inl (0, 20, 0, 0)]
def tW_40 : en_T := (tW_4).set 16 (.inr (0, [.inr 19, .inr 20, .inr 21, .inr 22, .inr 23, .inr 1, .inr 1, .inl (0, 0), .inl (0, 0)])) ++ [.inl (0, 16, 0, 0), .inl (0, 17, 0, 0), .inl (0, 16, 0, 0), .inl (0, 240, 0, 0), .inl (0, 240, 0, 0)]
def tW_41 : en_T := (tW_20).set 57 (.inr (0, [.inr 60, .inr 61, .inr 62, .inr 63, .inr 64, .inr 1, .inr 1, .inl (0, 0), .inl (0, 0)])) ++ [.inl (0, 16, 0, 0), .inl (0, 17, 0, 0), .inl (0, 16, 0, 0), .inl (0, 240, 0, 0), .inl (0, 240, 0, 0)]
def kk_0 : en_K := (1, [.inr 3], tW_0, none, tW_1, 1, 12, 1, 260)
def kk_1 : en_K := (3, [.inr 6], tW_2, none, tW_3, 1, 12, 11, 208)
def kk_2 : en_K := (4, [.inr 18], tW_4, none, tW_5, 2, 60, 7, 600)
def kk_3 : en_K := (6, [.inr 29, .inl ((-1), (-1))], tW_6, none, tW_7, 0, 0, 0, 0)
def kk_4 : en_K := (5, [.inr 26], tW_8, none, tW_9, 1, 23, 3, 92)
def kk_5 : en_K := (6, [.inr 33, .inl ((-1), (-1))], tW_10, none, tW_11, 0, 0, 0, 0)
def kk_6 : en_K := (5, [.inr 30], tW_12, none, tW_13, 1, 23, 3, 92)
def kk_7 : en_K := (7, [.inr 34], tW_14, none, tW_15, 1, 12, 6, 166)
def kk_8 : en_K := (2, [.inr 5], tW_16, none, tW_17, 3, 80, 41, 1378)
def kk_9 : en_K := (3, [.inr 47], tW_18, none, tW_19, 1, 12, 11, 208)
def kk_10 : en_K := (4, [.inr 59], tW_20, none, tW_21, 2, 60, 7, 600)
def kk_11 : en_K := (6, [.inr 71, .inl ((-1), (-1))], tW_22, none, tW_23, 0, 0, 0, 0)
def kk_12 : en_K := (5, [.inr 68], tW_24, none, tW_25, 1, 23, 3, 92)
def kk_13 : en_K := (8, [.inr 67], tW_26, none, tW_27, 2, 43, 5, 118)
def kk_14 : en_K := (7, [.inr 73], tW_28, none, tW_29, 1, 12, 6, 166)
def kk_15 : en_K := (6, [.inr 83, .inl ((-1), (-1))], tW_30, none, tW_31, 0, 0, 0, 0)
def kk_16 : en_K := (5, [.inr 80], tW_32, none, tW_33, 1, 23, 3, 92)
def kk_17 : en_K := (9, [.inr 84], tW_34, none, tW_35, 1, 12, 4, 20)
def kk_18 : en_K := (0, [.inr 2], tW_36, none, tW_37, 4, 100, 86, 2898)
def kk_19 : en_K := (135, [.inr 89], tW_38, none, tW_39, 1, 12, 64, 3131)
/-- LoadsAhead.Tape (making) -/
theorem ok_0 (l : Launch) : en_ok l kk_0 := en_good_ok (K := []) (fun _ h => absurd h List.not_mem_nil) (fuel := 9) (by decide +kernel)
/-- LoadsAhead.Program (making) -/
theorem ok_1 (l : Launch) : en_ok l kk_1 := en_good_ok (K := []) (fun _ h => absurd h List.not_mem_nil) (fuel := 49) (by decide +kernel)
/-- LoadsAhead.Law (making) -/
theorem ok_2 (l : Launch) : en_ok l kk_2 := en_lawmake l (L := [some (.inr 18)]) (S := [.inr 18]) (T := tW_40) (cs := 5) (sl := 529) rfl (by decide +kernel) (by decide +kernel) (by decide +kernel)
/-- java/util/Arrays fill -/
theorem ok_3 (l : Launch) : en_ok l kk_3 := en_fill l (T := tW_6) (j := 27) (n := 20) (b := (0, 0)) (v := ((-1), (-1))) (by decide +kernel) (by decide +kernel)
/-- LoadsAhead.State (making) -/
theorem ok_4 (l : Launch) : en_ok l kk_4 := en_good_ok (K := [kk_3]) (List.forall_mem_cons.mpr ⟨ok_3 l, fun _ h => absurd h List.not_mem_nil⟩) (fuel := 30) (by decide +kernel)
/-- java/util/Arrays fill -/
theorem ok_5 (l : Launch) : en_ok l kk_5 := en_fill l (T := tW_10) (j := 31) (n := 20) (b := (0, 0)) (v := ((-1), (-1))) (by decide +kernel) (by decide +kernel)
/-- LoadsAhead.State (making) -/
theorem ok_6 (l : Launch) : en_ok l kk_6 := en_good_ok (K := [kk_5]) (List.forall_mem_cons.mpr ⟨ok_5 l, fun _ h => absurd h List.not_mem_nil⟩) (fuel := 30) (by decide +kernel)
/-- LoadsAhead.Report (making) -/
theorem ok_7 (l : Launch) : en_ok l kk_7 := en_good_ok (K := []) (fun _ h => absurd h List.not_mem_nil) (fuel := 29) (by decide +kernel)
/-- LoadsAhead.Machine (making) -/
theorem ok_8 (l : Launch) : en_ok l kk_8 := en_good_ok (K := [kk_1, kk_2, kk_4, kk_6, kk_7]) (List.forall_mem_cons.mpr ⟨ok_1 l, List.forall_mem_cons.mpr ⟨ok_2 l, List.forall_mem_cons.mpr ⟨ok_4 l, List.forall_mem_cons.mpr ⟨ok_6 l, List.forall_mem_cons.mpr ⟨ok_7 l, fun _ h => absurd h List.not_mem_nil⟩⟩⟩⟩⟩) (fuel := 54) (by decide +kernel)
/-- LoadsAhead.Program (making) -/
theorem ok_9 (l : Launch) : en_ok l kk_9 := en_good_ok (K := []) (fun _ h => absurd h List.not_mem_nil) (fuel := 49) (by decide +kernel)
/-- LoadsAhead.Law (making) -/
theorem ok_10 (l : Launch) : en_ok l kk_10 := en_lawmake l (L := [some (.inr 59)]) (S := [.inr 59]) (T := tW_41) (cs := 5) (sl := 529) rfl (by decide +kernel) (by decide +kernel) (by decide +kernel)
/-- java/util/Arrays fill -/
theorem ok_11 (l : Launch) : en_ok l kk_11 := en_fill l (T := tW_22) (j := 69) (n := 20) (b := (0, 0)) (v := ((-1), (-1))) (by decide +kernel) (by decide +kernel)
/-- LoadsAhead.State (making) -/
theorem ok_12 (l : Launch) : en_ok l kk_12 := en_good_ok (K := [kk_11]) (List.forall_mem_cons.mpr ⟨ok_11 l, fun _ h => absurd h List.not_mem_nil⟩) (fuel := 30) (by decide +kernel)
/-- LoadsAhead.Plain (making) -/
theorem ok_13 (l : Launch) : en_ok l kk_13 := en_good_ok (K := [kk_12]) (List.forall_mem_cons.mpr ⟨ok_12 l, fun _ h => absurd h List.not_mem_nil⟩) (fuel := 14) (by decide +kernel)
/-- LoadsAhead.Report (making) -/
theorem ok_14 (l : Launch) : en_ok l kk_14 := en_good_ok (K := []) (fun _ h => absurd h List.not_mem_nil) (fuel := 29) (by decide +kernel)
/-- java/util/Arrays fill -/
theorem ok_15 (l : Launch) : en_ok l kk_15 := en_fill l (T := tW_30) (j := 81) (n := 20) (b := (0, 0)) (v := ((-1), (-1))) (by decide +kernel) (by decide +kernel)
/-- LoadsAhead.State (making) -/
theorem ok_16 (l : Launch) : en_ok l kk_16 := en_good_ok (K := [kk_15]) (List.forall_mem_cons.mpr ⟨ok_15 l, fun _ h => absurd h List.not_mem_nil⟩) (fuel := 30) (by decide +kernel)
/-- LoadsAhead.Rows (making) -/
theorem ok_17 (l : Launch) : en_ok l kk_17 := eg_rowsmake l (L := [some (.inr 84)]) (S := [.inr 84]) (T := tW_34) (cs := 0) (sl := 0) rfl (by decide +kernel) (by decide +kernel) (by decide +kernel)
/-- LoadsAhead (making) -/
theorem ok_18 (l : Launch) : en_ok l kk_18 := en_good_ok (K := [kk_0, kk_8, kk_9, kk_10, kk_13, kk_14, kk_16, kk_17]) (List.forall_mem_cons.mpr ⟨ok_0 l, List.forall_mem_cons.mpr ⟨ok_8 l, List.forall_mem_cons.mpr ⟨ok_9 l, List.forall_mem_cons.mpr ⟨ok_10 l, List.forall_mem_cons.mpr ⟨ok_13 l, List.forall_mem_cons.mpr ⟨ok_14 l, List.forall_mem_cons.mpr ⟨ok_16 l, List.forall_mem_cons.mpr ⟨ok_17 l, fun _ h => absurd h List.not_mem_nil⟩⟩⟩⟩⟩⟩⟩⟩) (fuel := 54) (by decide +kernel)
/-- LoadsAheadModel (making) -/
theorem ok_19 (l : Launch) : en_ok l kk_19 := en_good_ok (K := []) (fun _ h => absurd h List.not_mem_nil) (fuel := 264) (by decide +kernel)
def eg_rf (P : List Nat) (a b : en_V) : Bool := match a, b with
  | .inl q, .inl r => decide (r.1 ≤ q.1) && decide (q.2 ≤ r.2)
  | .inr (j + 2), .inr (k + 2) => P[k]? == some j
  | _, _ => false
def eg_bc (P : List Nat) (a b : en_C) : Bool := match a, b with
  | .inl q, .inl r => q.1 == r.1 && (q.2.1 == r.2.1 && (match q.1 == 3 with
    | true => (List.range q.2.1).all (fun j => P[r.2.2.1.toNat + j]? == some (q.2.2.1.toNat + j))
    | false => decide (r.2.2.1 ≤ q.2.2.1) && decide (q.2.2.2 ≤ r.2.2.2)))
  | .inr q, .inr r => q.1 == r.1 && en_all2 (eg_rf P) q.2 r.2
  | _, _ => false
def eg_bk (P Q : List Nat) (T U : en_T) : Bool := P.length == U.length && (T.length == U.length && (List.range U.length).all (fun k => match P[k]?, U[k]? with
  | some i, some b => Q[i]? == some k && (match T[i]? with
    | some a => eg_bc P a b
    | none => false)
  | _, _ => false))
theorem eg_rf_ok {P : List Nat} {N : Nat} {ad : Nat → Nat} {a b : en_V} {x : Value} (hN : P.length = N) (h : eg_rf P a b = true) (hx : en_v N ad a x) : en_v N (fun k => ad (P.getD k 0)) b x := by
  match a, b, h, hx with
  | .inl q, .inl r, h, ⟨i, e, h1, h2⟩ =>
    simp only [eg_rf, Bool.and_eq_true, decide_eq_true_eq] at h
    exact ⟨i, e, Int.le_trans h.1 h1, Int.le_trans h2 h.2⟩
  | .inr (j + 2), .inr (k + 2), h, hx =>
    have hx : x = .ref (ad j) ∧ j < N := hx
    simp only [eg_rf, beq_iff_eq] at h
    have hk := (List.getElem?_eq_some_iff.mp h).1
    show x = .ref (ad (P.getD k 0)) ∧ k < N
    refine ⟨?_, by omega⟩
    rw [List.getD_eq_getElem?_getD, h]
    exact hx.1
theorem eg_rfs_ok {P : List Nat} {N : Nat} {ad : Nat → Nat} (hN : P.length = N) : ∀ {as bs : List en_V} {xs : List Value}, en_all2 (eg_rf P) as bs = true → en_vs N ad as xs → en_vs N (fun k => ad (P.getD k 0)) bs xs
  | [], [], [], _, _ => trivial
  | a :: as, b :: bs, x :: xs, h, hx => by
    simp only [en_all2, Bool.and_eq_true] at h
    exact ⟨eg_rf_ok hN h.1 hx.1, eg_rfs_ok hN h.2 hx.2⟩
  | [], _ :: _, _, h, _ => by simp [en_all2] at h
  | _ :: _, [], _, h, _ => by simp [en_all2] at h
  | _ :: _, _ :: _, [], _, hx => absurd hx (by simp [en_vs])
  | [], [], _ :: _, _, hx => absurd hx (by simp [en_vs])
theorem eg_bc_ok {P : List Nat} {tys : List (ClassId × FieldType)} {N : Nat} {ad : Nat → Nat} {a b : en_C} {e : va_E} (hN : P.length = N) (h : eg_bc P a b = true) (hx : ev_c tys N ad a e) : ev_c tys N (fun k => ad (P.getD k 0)) b e := by
  match a, b, h with
  | .inl q, .inl r, h =>
    simp only [eg_bc, Bool.and_eq_true, beq_iff_eq] at h
    obtain ⟨h1, h2, h3⟩ := h
    by_cases h4 : q.1 = 3
    · have h5 : (q.1 == 3) = true := by rw [h4]; rfl
      rw [h5] at h3
      simp only [List.all_eq_true, List.mem_range, beq_iff_eq] at h3
      unfold ev_c at *
      dsimp only at *
      rw [if_pos h4] at hx
      rw [if_pos (by rw [← h1]; exact h4)]
      obtain ⟨cA, f, g1, g2, g3⟩ := hx
      refine ⟨cA, f, by rw [← h2]; exact g1, g2, fun j hj => ?_⟩
      rw [← h2] at hj
      have hq := h3 j hj
      have hk := (List.getElem?_eq_some_iff.mp hq).1
      refine ⟨?_, by omega⟩
      rw [List.getD_eq_getElem?_getD, hq]
      exact (g3 j hj).1
    · have h5 : (q.1 == 3) = false := by rw [beq_eq_false_iff_ne]; exact h4
      rw [h5] at h3
      simp only [Bool.and_eq_true, decide_eq_true_eq] at h3
      obtain ⟨cA, f, e1, e2, e3⟩ := ec_get h4 hx
      exact ec_arr (by rw [← h1]; exact h4) ⟨cA, f, by rw [← h2]; exact e1, by rw [← h1]; exact e2, fun j hj => by have := e3 j (by omega); omega⟩
  | .inr q, .inr r, h =>
    simp only [eg_bc, Bool.and_eq_true, beq_iff_eq] at h
    obtain ⟨vs, e1, e2⟩ := hx
    exact ⟨vs, by rw [← h.1]; exact e1, eg_rfs_ok hN h.2 e2⟩
theorem eg_bridge {P Q : List Nat} {T U : en_T} {D : va_G} {tys : List (ClassId × FieldType)} {A : Nat → Prop} {ad : Nat → Nat} {H : Heap} (hb : eg_bk P Q T U = true) (hW : eg_W D tys A T ad H) :
    ∃ ws : va_W, ev_w tys U (fun k => ad (P.getD k 0)) ws ∧ va_P D vwCl ws H ∧ va_D A ws ∧ ∀ (k i : Nat) (t : en_C), P[k]? = some i → T[i]? = some t → ∃ e : va_E, ws[k]? = some (ad i, e) ∧ ev_c tys T.length ad t e := by
  obtain ⟨vs, v1, v2, v3, v4⟩ := hW
  simp only [eg_bk, Bool.and_eq_true, beq_iff_eq, List.all_eq_true, List.mem_range] at hb
  obtain ⟨b1, b2, b3⟩ := hb
  have key : ∀ k : Nat, k < U.length → ∃ (i : Nat) (a b : en_C), P[k]? = some i ∧ U[k]? = some b ∧ T[i]? = some a ∧ Q[i]? = some k ∧ eg_bc P a b = true := by
    intro k hk
    have h := b3 k hk
    split at h
    · rename_i i b h1 h2
      simp only [Bool.and_eq_true, beq_iff_eq] at h
      obtain ⟨h3, h4⟩ := h
      split at h4
      · rename_i a h5
        exact ⟨i, a, b, h1, h2, h5, h3, h4⟩
      · cases h4
    · cases h
  have at0 : ∀ (k i : Nat) (t : en_C), P[k]? = some i → T[i]? = some t → ∃ e : va_E, (P.map (fun i => vs.getD i (0, .inr (0, []))))[k]? = some (ad i, e) ∧ vs[i]? = some (ad i, e) ∧ ev_c tys T.length ad t e := by
    intro k i t hk ht
    obtain ⟨e, e1, e2⟩ := v2 i t ht
    refine ⟨e, ?_, e1, e2⟩
    rw [List.getElem?_map, hk]
    show some (vs.getD i _) = _
    rw [List.getD_eq_getElem?_getD, e1]
    rfl
  have back : ∀ (k : Nat) (q : Nat × va_E), (P.map (fun i => vs.getD i (0, .inr (0, []))))[k]? = some q → ∃ i : Nat, vs[i]? = some q ∧ Q[i]? = some k := by
    intro k q hk
    have hl := (List.getElem?_eq_some_iff.mp hk).1
    rw [List.length_map, b1] at hl
    obtain ⟨i, a, b, h1, h2, h3, h4, h5⟩ := key k hl
    obtain ⟨e, e1, e2, e3⟩ := at0 k i a h1 h3
    rw [e1] at hk
    cases hk
    exact ⟨i, e2, h4⟩
  refine ⟨P.map (fun i => vs.getD i (0, .inr (0, []))), ⟨by rw [List.length_map]; exact b1, fun k t hk => ?_⟩, fun k q hk => ?_, ⟨fun i j x y hi hj hxy => ?_, fun k q hk => ?_⟩, fun k i t hk ht => ?_⟩
  · have hl := (List.getElem?_eq_some_iff.mp hk).1
    obtain ⟨i, a, b, h1, h2, h3, h4, h5⟩ := key k hl
    rw [h2] at hk
    cases hk
    obtain ⟨e, e1, e2, e3⟩ := at0 k i a h1 h3
    refine ⟨e, ?_, ?_⟩
    · rw [e1]
      show some (ad i, e) = some (ad (P.getD k 0), e)
      rw [List.getD_eq_getElem?_getD, h1]
      rfl
    · rw [b2] at e3
      exact eg_bc_ok b1 h5 e3
  · obtain ⟨i, h1, h2⟩ := back k q hk
    exact v3 i q h1
  · obtain ⟨i', h1, h2⟩ := back i x hi
    obtain ⟨j', h3, h4⟩ := back j y hj
    have h5 := v4.1 i' j' x y h1 h3 hxy
    subst h5
    exact Option.some.inj (h2.symm.trans h4)
  · obtain ⟨i, h1, h2⟩ := back k q hk
    exact v4.2 i q h1
  · obtain ⟨e, e1, e2, e3⟩ := at0 k i t hk ht
    exact ⟨e, e1, e3⟩
def eg_pP : List Nat := [0, 1, 2, 3, 4, 5, 6, 7, 8, 9, 10, 11, 12, 13, 14, 15, 16, 17, 18, 19, 20, 21, 22, 23, 24, 25, 26, 27, 28, 29, 30, 31, 32, 33, 34, 35, 36, 37, 38, 39, 40, 41, 42, 43, 44, 45, 46, 47, 48, 49, 50, 51, 52, 53, 54, 55, 56, 57, 58, 59, 60, 61, 62, 63, 64, 65, 66, 67, 68, 69, 70, 71, 72, 73, 74, 75, 76, 77, 78, 79, 80, 81, 82, 86, 87, 88, 89, 90, 91, 92, 93, 94, 95, 96, 97, 98, 99, 100, 101, 102, 103, 104, 105, 106, 107, 108, 109, 110, 111, 112, 113, 114, 115, 116, 117, 118, 119, 120, 121, 122, 123, 124, 125, 126, 127, 128, 129, 130, 131, 132, 133, 134, 135, 136, 137, 138, 139, 140, 141, 142, 143, 144, 145, 146, 147, 148, 149, 150, 151, 85, 83, 84]
def eg_pQ : List Nat := [0, 1, 2, 3, 4, 5, 6, 7, 8, 9, 10, 11, 12, 13, 14, 15, 16, 17, 18, 19, 20, 21, 22, 23, 24, 25, 26, 27, 28, 29, 30, 31, 32, 33, 34, 35, 36, 37, 38, 39, 40, 41, 42, 43, 44, 45, 46, 47, 48, 49, 50, 51, 52, 53, 54, 55, 56, 57, 58, 59, 60, 61, 62, 63, 64, 65, 66, 67, 68, 69, 70, 71, 72, 73, 74, 75, 76, 77, 78, 79, 80, 81, 82, 150, 151, 149, 83, 84, 85, 86, 87, 88, 89, 90, 91, 92, 93, 94, 95, 96, 97, 98, 99, 100, 101, 102, 103, 104, 105, 106, 107, 108, 109, 110, 111, 112, 113, 114, 115, 116, 117, 118, 119, 120, 121, 122, 123, 124, 125, 126, 127, 128, 129, 130, 131, 132, 133, 134, 135, 136, 137, 138, 139, 140, 141, 142, 143, 144, 145, 146, 147, 148]
