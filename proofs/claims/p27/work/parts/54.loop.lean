section LE3
variable {p : Program} {l : Launch} {e : Env} {s : State} {m : MethodId} {below : List Frame} {meth : Method} {c : Code} {D : va_G} {tys : List (ClassId × FieldType)} {aK aV cs sl b L : Nat} {xs : Nat → Int32} {ad : Nat → Nat}
/-- the law's end, with 1 -/
theorem le_out (C : ev_cx p s m #[Value.ref b] meth c code 4 13 D tys aK aV s.heap.size) (hr : meth.sig.returnType = ret) (hcs : cs ≤ 600000) (hsl : sl ≤ 7302250) {ls : Array Slot} {H : Heap} {locs : List Loc} (hS : va_S (fun q => s.heap.size ≤ q) s.heap H locs) : W p l e room_1 s m #[Value.ref b] below meth c H locs cs sl (lw_Z below #[Value.ref b] s) (F0 m 836 ls []) := by
  refine lv_iconst (v := 1) C.1 C.2.1 dL_836 (by decide) ?_
  refine va_forget (fun q hq => hS.2.2 q hq) ?_
  refine W.widen (k := 600000) (n := 7302250) hcs hsl ?_
  exact lw_ret C.1 C.2.1 hr C.2.2.2.2.2.2.2.2 dL_837
theorem le_sub6 (hL : L < 2 ^ 31) : (Int32.ofNat L - 6).toInt = (L : Int) - 6 := by
  have h1 : (Int32.ofNat L).toInt = (L : Int) := nI_toInt hL
  have h2 : (6 : Int32).toInt = 6 := rfl
  rw [fb_subI (by rw [h1, h2]; omega) (by rw [h1, h2]; omega), h1, h2]
set_option maxHeartbeats 4000000 in
theorem le_loop (C : ev_cx p s m #[Value.ref b] meth c code 4 13 D tys aK aV s.heap.size) (hr : meth.sig.returnType = ret) (hX : va_X b L xs s s.heap) (hbl : b < s.heap.size) (hL : L ≤ 3072) (hcs : cs ≤ 600000) (hsl : sl ≤ 7302250) : ∀ (d i : Nat) (ls : Array Slot) (ws : va_W) (H : Heap) (locs : List Loc), 3080 - i = d → i ≤ 3078 → lv_has ls 4 [(0, .ref b), (1, .ref (ad 0)), (2, .ref (ad 84)), (3, .int (nI i))] → ev_w tys tF ad ws → WR i (sg ws) (sg ws) → va_P D vwCl ws H → va_D (fun q => s.heap.size ≤ q) ws → va_S (fun q => s.heap.size ≤ q) s.heap H locs →
    W p l e room_1 s m #[Value.ref b] below meth c H locs cs sl (lw_Z below #[Value.ref b] s) (F0 m 18 ls []) := by
  intro d
  induction d using Nat.strongRecOn with
  | _ d ih =>
    intro i ls ws H locs hd hi hl hw hJ hP hD hS
    have hbA : ¬ (fun q : Nat => s.heap.size ≤ q) b := Nat.not_le.mpr hbl
    have hL2 : L < 2 ^ 31 := by omega
    refine lv_iload_n C.1 C.2.1 dL_18 rfl (lv_at hl 3 rfl) ?_
    refine lv_aload_n C.1 C.2.1 dL_19 rfl (lv_at hl 0 rfl) ?_
    refine va_slen C.1 C.2.1 hX hbl hbA hS dL_20 ?_
    refine lv_bipush (v := 6) C.1 C.2.1 dL_21 (by decide) ?_
    refine lv_isub C.1 C.2.1 dL_23 ?_
    refine lv_icmp_gt (tgt := 836) C.1 C.2.1 dL_24 (by decide) (fun _ => le_out C hr hcs hsl hS) (fun hc => ?_)
    rw [fa_lt, le_sub6 hL2, nI_toInt (by omega)] at hc
    have hL6 : i + 6 ≤ L := by omega
    have kk : le_go p l e s m #[Value.ref b] below meth c (lw_Z below #[Value.ref b] s) D tys s.heap.size ad ls cs sl 830 (i + 1) := by
      intro ws H locs hw hJ hP hD hS
      refine lv_iinc (v := nI (i + 6)) (k := 3) (lv' := [(3, .int (nI (i + 6))), (0, .ref b), (1, .ref (ad 0)), (2, .ref (ad 84))]) C.1 C.2.1 dL_830 hl rfl (by rw [show Int32.ofInt 6 = nI 6 from rfl, le_nI (by omega)]) (by decide) rfl (fun ls hl => ?_)
      refine lv_goto (tgt := 18) C.1 C.2.1 dL_833 (by decide) ?_
      exact ih (3080 - (i + 6)) (by omega) (i + 6) ls ws H locs rfl (by omega) (lv_sub hl [1, 2, 3, 0] rfl) hw (hJ.mono (by omega)) hP hD hS
    refine lv_aload_n C.1 C.2.1 dL_27 rfl (lv_at hl 0 rfl) ?_
    refine lv_iload_n C.1 C.2.1 dL_28 rfl (lv_at hl 3 rfl) ?_
    refine va_sld C.1 C.2.1 hX hbl hbA hS (vp_in_nI (by omega) hL2) dL_29 ?_
    refine lv_bipush (v := 31) C.1 C.2.1 dL_30 (by decide) ?_
    refine lv_iand C.1 C.2.1 dL_32 ?_
    obtain ⟨j, hj, ej⟩ := pk_andE (xs (nI i).toNatClampNeg) (m := 31) 5 rfl
    rw [ej]
    have hj : j < 32 := hj
    match j, hj with
    | 0, _ => exact lv_tableIn (tgt := 152) C.1 C.2.1 dL_33 (by decide) (by decide) (off := 119) (by decide) (by decide) (le_0 C hX hbl hbA hL6 hL2 hi hl hcs hsl hw hJ hP hD hS kk)
    | 1, _ => exact lv_tableIn (tgt := 185) C.1 C.2.1 dL_33 (by decide) (by decide) (off := 152) (by decide) (by decide) (le_1 C hX hbl hbA hL6 hL2 hi hl hcs hsl hw hJ hP hD hS kk)
    | 2, _ => exact lv_tableIn (tgt := 218) C.1 C.2.1 dL_33 (by decide) (by decide) (off := 185) (by decide) (by decide) (le_2 C hX hbl hbA hL6 hL2 hi hl hcs hsl hw hJ hP hD hS kk)
    | 3, _ => exact lv_tableIn (tgt := 281) C.1 C.2.1 dL_33 (by decide) (by decide) (off := 248) (by decide) (by decide) (le_3 C hX hbl hbA hL6 hL2 hi hl hcs hsl hw hJ hP hD hS kk)
    | 4, _ => exact lv_tableIn (tgt := 304) C.1 C.2.1 dL_33 (by decide) (by decide) (off := 271) (by decide) (by decide) (le_4 C hX hbl hbA hL6 hL2 hi hl hcs hsl hw hJ hP hD hS kk)
    | 5, _ => exact lv_tableIn (tgt := 327) C.1 C.2.1 dL_33 (by decide) (by decide) (off := 294) (by decide) (by decide) (le_5 C hX hbl hbA hL6 hL2 hi hl hcs hsl hw hJ hP hD hS kk)
    | 6, _ => exact lv_tableIn (tgt := 350) C.1 C.2.1 dL_33 (by decide) (by decide) (off := 317) (by decide) (by decide) (le_6 C hX hbl hbA hL6 hL2 hi hl hcs hsl hw hJ hP hD hS kk)
    | 7, _ => exact lv_tableIn (tgt := 383) C.1 C.2.1 dL_33 (by decide) (by decide) (off := 350) (by decide) (by decide) (le_7 C hX hbl hbA hL6 hL2 hi hl hcs hsl hw hJ hP hD hS kk)
    | 8, _ => exact lv_tableIn (tgt := 406) C.1 C.2.1 dL_33 (by decide) (by decide) (off := 373) (by decide) (by decide) (le_8 C hX hbl hbA hL6 hL2 hi hl hcs hsl hw hJ hP hD hS kk)
    | 9, _ => exact lv_tableIn (tgt := 439) C.1 C.2.1 dL_33 (by decide) (by decide) (off := 406) (by decide) (by decide) (le_9 C hX hbl hbA hL6 hL2 hi hl hcs hsl hw hJ hP hD hS kk)
    | 10, _ => exact lv_tableIn (tgt := 472) C.1 C.2.1 dL_33 (by decide) (by decide) (off := 439) (by decide) (by decide) (le_10 C hX hbl hbA hL6 hL2 hi hl hcs hsl hw hJ hP hD hS kk)
    | 11, _ => exact lv_tableIn (tgt := 495) C.1 C.2.1 dL_33 (by decide) (by decide) (off := 462) (by decide) (by decide) (le_11 C hX hbl hbA hL6 hL2 hi hl hcs hsl hw hJ hP hD hS kk)
    | 12, _ => exact lv_tableIn (tgt := 518) C.1 C.2.1 dL_33 (by decide) (by decide) (off := 485) (by decide) (by decide) (le_12 C hX hbl hbA hL6 hL2 hi hl hcs hsl hw hJ hP hD hS kk)
    | 13, _ => exact lv_tableIn (tgt := 541) C.1 C.2.1 dL_33 (by decide) (by decide) (off := 508) (by decide) (by decide) (le_13 C hX hbl hbA hL6 hL2 hi hl hcs hsl hw hJ hP hD hS kk)
    | 14, _ => exact lv_tableIn (tgt := 564) C.1 C.2.1 dL_33 (by decide) (by decide) (off := 531) (by decide) (by decide) (le_14 C hX hbl hbA hL6 hL2 hi hl hcs hsl hw hJ hP hD hS kk)
    | 15, _ => exact lv_tableIn (tgt := 597) C.1 C.2.1 dL_33 (by decide) (by decide) (off := 564) (by decide) (by decide) (le_15 C hX hbl hbA hL6 hL2 hi hl hcs hsl hw hJ hP hD hS kk)
    | 16, _ => exact lv_tableIn (tgt := 620) C.1 C.2.1 dL_33 (by decide) (by decide) (off := 587) (by decide) (by decide) (le_16 C hX hbl hbA hL6 hL2 hi hl hcs hsl hw hJ hP hD hS kk)
    | 17, _ => exact lv_tableIn (tgt := 633) C.1 C.2.1 dL_33 (by decide) (by decide) (off := 600) (by decide) (by decide) (le_17 C hX hbl hbA hL6 hL2 hi hl hcs hsl hw hJ hP hD hS kk)
    | 18, _ => exact lv_tableIn (tgt := 646) C.1 C.2.1 dL_33 (by decide) (by decide) (off := 613) (by decide) (by decide) (le_18 C hX hbl hbA hL6 hL2 hi hl hcs hsl hw hJ hP hD hS kk)
    | 19, _ => exact lv_tableIn (tgt := 679) C.1 C.2.1 dL_33 (by decide) (by decide) (off := 646) (by decide) (by decide) (le_19 C hX hbl hbA hL6 hL2 hi hl hcs hsl hw hJ hP hD hS kk)
    | 20, _ => exact lv_tableIn (tgt := 722) C.1 C.2.1 dL_33 (by decide) (by decide) (off := 689) (by decide) (by decide) (le_20 C hX hbl hbA hL6 hL2 hi hl hcs hsl hw hJ hP hD hS kk)
    | 21, _ => exact lv_tableIn (tgt := 735) C.1 C.2.1 dL_33 (by decide) (by decide) (off := 702) (by decide) (by decide) (le_21 C hX hbl hbA hL6 hL2 hi hl hcs hsl hw hJ hP hD hS kk)
    | 22, _ => exact lv_tableIn (tgt := 758) C.1 C.2.1 dL_33 (by decide) (by decide) (off := 725) (by decide) (by decide) (le_22 C hX hbl hbA hL6 hL2 hi hl hcs hsl hw hJ hP hD hS kk)
    | 23, _ => exact lv_tableIn (tgt := 771) C.1 C.2.1 dL_33 (by decide) (by decide) (off := 738) (by decide) (by decide) (le_23 C hX hbl hbA hL6 hL2 hi hl hcs hsl hw hJ hP hD hS kk)
    | 24, _ => exact lv_tableIn (tgt := 784) C.1 C.2.1 dL_33 (by decide) (by decide) (off := 751) (by decide) (by decide) (le_24 C hX hbl hbA hL6 hL2 hi hl hcs hsl hw hJ hP hD hS kk)
    | 25, _ => exact lv_tableIn (tgt := 807) C.1 C.2.1 dL_33 (by decide) (by decide) (off := 774) (by decide) (by decide) (le_25 C hX hbl hbA hL6 hL2 hi hl hcs hsl hw hJ hP hD hS kk)
    | 26, _ => exact lv_tableOut (tgt := 830) C.1 C.2.1 dL_33 (by decide) (by decide) (kk _ _ _ hw (hJ.mono (by omega)) hP hD hS)
    | 27, _ => exact lv_tableOut (tgt := 830) C.1 C.2.1 dL_33 (by decide) (by decide) (kk _ _ _ hw (hJ.mono (by omega)) hP hD hS)
    | 28, _ => exact lv_tableOut (tgt := 830) C.1 C.2.1 dL_33 (by decide) (by decide) (kk _ _ _ hw (hJ.mono (by omega)) hP hD hS)
    | 29, _ => exact lv_tableOut (tgt := 830) C.1 C.2.1 dL_33 (by decide) (by decide) (kk _ _ _ hw (hJ.mono (by omega)) hP hD hS)
    | 30, _ => exact lv_tableOut (tgt := 830) C.1 C.2.1 dL_33 (by decide) (by decide) (kk _ _ _ hw (hJ.mono (by omega)) hP hD hS)
    | 31, _ => exact lv_tableOut (tgt := 830) C.1 C.2.1 dL_33 (by decide) (by decide) (kk _ _ _ hw (hJ.mono (by omega)) hP hD hS)
    | k + 32, h => omega
end LE3
