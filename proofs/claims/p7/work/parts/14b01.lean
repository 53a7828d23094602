def f_X_fastest_0 (a1 : Int) (σ : pS) : Option (Int × pS) := if a1 < 0 then (some ((-1), σ)) else (if 1 < a1 then (some ((-1), σ)) else (if (σ 4 11) = 0 then (some ((-1), σ)) else (f_X_fastest_0_p33 4096 a1 (-5) (-5) 1 σ)))
def f_M_fastest_84_p27 : Nat → Int → Int → Int → Int → pS → Option (Int × pS)
  | 0, _, _, _, _, _ => none
  | n + 1, a1, a2, a3, a4, σ => if a4 ≤ 0 then (if a1 = 0 then (some (a2, σ)) else (some (a3, σ))) else ((f_M_isTried_84 a4 0 σ).bind fun q6 => (if q6.1 = 0 then (f_M_fastest_84_p27 n a1 a2 a3 (pw (a4 + (-1))) q6.2) else (if a2 = (-5) then (f_M_fastest_84_p27 n a1 a4 (q6.2 84 63) (pw (a4 + (-1))) q6.2) else (if (q6.2 84 63) ≤ a3 then (f_M_fastest_84_p27 n a1 a4 (q6.2 84 63) (pw (a4 + (-1))) q6.2) else (f_M_fastest_84_p27 n a1 a2 a3 (pw (a4 + (-1))) q6.2)))))
def f_M_fastest_84 (a1 : Int) (σ : pS) : Option (Int × pS) := (f_M_in a1 0 1 σ).bind fun q1 => (if q1.1 = 0 then (some ((-1), q1.2)) else (if (q1.2 84 2) = 0 then (some ((-1), q1.2)) else (f_M_fastest_84_p27 4096 a1 (-5) (-5) 4 q1.2)))
def f_X_cautious_0 (a1 a2 : Int) (σ : pS) : Option (Int × pS) := (f_X_canRun_0 a1 σ).bind fun q1 => (if q1.1 = 0 then (some ((-1), q1.2)) else ((f_X_isTotal a2 q1.2).bind fun q3 => (if q3.1 = 0 then (some ((-1), q3.2)) else ((f_Mach_go_3 a1 1 q3.2).bind fun q5 => (if q5.1 = (-5) then (some ((-5), q5.2)) else (if 0 ≤ a2 ∧ a2 < 6 then (some (q5.2 33 a2.toNat, q5.2)) else none))))))
def f_M_cautious_84 (a1 a2 : Int) (σ : pS) : Option (Int × pS) := (f_M_canRun_84 a1 σ).bind fun q1 => (if q1.1 = 0 then (some ((-1), q1.2)) else ((f_M_in a2 0 5 q1.2).bind fun q3 => (if q3.1 = 0 then (some ((-1), q3.2)) else ((f_M_isTried_84 a1 1 q3.2).bind fun q5 => (if q5.1 = 0 then (some ((-5), q5.2)) else ((f_M_toldOf_84 a2 q5.2).bind fun q7 => (some (q7.1, q7.2))))))))
def f_X_worst_0_p25 : Nat → Int → Int → Int → pS → Option (Int × pS)
  | 0, _, _, _, _ => none
  | n + 1, a1, a2, a3, σ => if (σ 4 11) ≤ a3 then (if a1 = 0 then (some (a2, σ)) else (if 0 ≤ a2 ∧ a2 < 20 then (some (σ 74 a2.toNat, σ)) else none)) else (if 0 ≤ a3 ∧ a3 < 20 then (if 0 ≤ a2 ∧ a2 < 20 then (if (σ 74 a3.toNat) ≤ (σ 74 a2.toNat) then (f_X_worst_0_p25 n a1 a2 (pw (a3 + 1)) σ) else (f_X_worst_0_p25 n a1 a3 (pw (a3 + 1)) σ)) else none) else none)
def f_X_worst_0 (a1 : Int) (σ : pS) : Option (Int × pS) := if a1 < 0 then (some ((-1), σ)) else (if a1 ≤ 1 then (if (σ 0 8) = 0 then (some ((-2), σ)) else (f_X_worst_0_p25 4096 a1 0 1 σ)) else (some ((-1), σ)))
def f_M_worstOp_84_p4 : Nat → Int → Int → pS → Option (Int × pS)
  | 0, _, _, _ => none
  | n + 1, a1, a2, σ => if (σ 84 2) ≤ a2 then (some (a1, σ)) else (if 0 ≤ a2 ∧ a2 < 20 then (if 0 ≤ a1 ∧ a1 < 20 then (if (σ 136 a2.toNat) ≤ (σ 136 a1.toNat) then (f_M_worstOp_84_p4 n a1 (pw (a2 + 1)) σ) else (f_M_worstOp_84_p4 n a2 (pw (a2 + 1)) σ)) else none) else none)
def f_M_worstOp_84 (σ : pS) : Option (Int × pS) := f_M_worstOp_84_p4 4096 0 1 σ
def f_M_worst_84 (a1 : Int) (σ : pS) : Option (Int × pS) := (f_M_in a1 0 1 σ).bind fun q1 => (if q1.1 = 0 then (some ((-1), q1.2)) else (if (q1.2 84 75) = 0 then (some ((-2), q1.2)) else (if a1 = 0 then ((f_M_worstOp_84  q1.2).bind fun q7 => (some (q7.1, q7.2))) else ((f_M_worstOp_84  q1.2).bind fun q5 => (if 0 ≤ q5.1 ∧ q5.1 < 20 then (some (q5.2 136 q5.1.toNat, q5.2)) else none)))))
def f_Plain_meet_65_4 (a2 a3 : Int) (σ : pS) : Option (Int × pS) := if 0 ≤ a3 ∧ a3 < 20 then (if 0 ≤ a3 ∧ a3 < 20 then (if 0 ≤ a2 ∧ a2 < 20 then ((f_X_covers (σ 70 a3.toNat) (σ 7 a3.toNat) (σ 70 a2.toNat) σ).bind fun q4 => (if q4.1 = 0 then (if 0 ≤ a2 ∧ a2 < 20 then (if 0 ≤ a2 ∧ a2 < 20 then (if 0 ≤ a3 ∧ a3 < 20 then ((f_X_covers (q4.2 70 a2.toNat) (q4.2 7 a2.toNat) (q4.2 70 a3.toNat) q4.2).bind fun q9 => (if q9.1 = 0 then (some (0, q9.2)) else (some (1, q9.2)))) else none) else none) else none) else (some (1, q4.2)))) else none) else none) else none
def f_Plain_sharedBytes_65_4_p15 (k_4 : Int → Int → pS → Option (Int × pS)) : Nat → Int → Int → Int → pS → Option (Int × pS)
  | 0, _, _, _, _ => none
  | n + 1, a2, a3, a4, σ => if a3 ≤ a4 then (k_4 a2 (pw (a3 + 1)) σ) else (if 0 ≤ a3 ∧ a3 < 20 then (if (σ 5 a3.toNat) = 2 then (if 0 ≤ a4 ∧ a4 < 20 then (if (σ 5 a4.toNat) = 3 then ((f_Plain_meet_65_4 a3 a4 σ).bind fun q7 => (if q7.1 = 0 then (f_Plain_sharedBytes_65_4_p15 k_4 n a2 a3 (pw (a4 + 1)) q7.2) else (f_Plain_sharedBytes_65_4_p15 k_4 n (pw (a2 + 1)) a3 (pw (a4 + 1)) q7.2))) else (f_Plain_sharedBytes_65_4_p15 k_4 n a2 a3 (pw (a4 + 1)) σ)) else none) else (f_Plain_sharedBytes_65_4_p15 k_4 n a2 a3 (pw (a4 + 1)) σ)) else none)
def f_Plain_sharedBytes_65_4_p4 : Nat → Int → Int → pS → Option (Int × pS)
  | 0, _, _, _ => none
  | n + 1, a2, a3, σ => if (σ 4 11) ≤ a3 then (some (a2, σ)) else (f_Plain_sharedBytes_65_4_p15 (f_Plain_sharedBytes_65_4_p4 n) 4096 a2 a3 0 σ)
def f_Plain_sharedBytes_65_4 (σ : pS) : Option (Int × pS) := f_Plain_sharedBytes_65_4_p4 4096 0 0 σ
def f_X_mix_0 (σ : pS) : Option (Int × pS) := (f_Plain_go_65_4_24  σ).bind fun q1 => ((f_Plain_sharedBytes_65_4  q1.2).bind fun q2 => (some (q2.1, q2.2)))
def f_M_haveByte_84_p2 : Nat → Int → Int → Int → pS → Option (Int × pS)
  | 0, _, _, _, _ => none
  | n + 1, a1, a2, a3, σ => if 0 ≤ a1 ∧ a1 < 20 then (if (σ 93 a1.toNat) ≤ a3 then (some (0, σ)) else (if 0 ≤ a1 ∧ a1 < 20 then (if 0 ≤ a2 ∧ a2 < 20 then (if 0 ≤ a2 ∧ a2 < 20 then (if (σ 93 a2.toNat) ≤ (pAnd (pw ((pw ((σ 142 a1.toNat) + a3)) - (σ 142 a2.toNat))) 63) then (f_M_haveByte_84_p2 n a1 a2 (pw (a3 + 1)) σ) else (some (1, σ))) else none) else none) else none)) else none
def f_M_haveByte_84 (a1 a2 : Int) (σ : pS) : Option (Int × pS) := f_M_haveByte_84_p2 4096 a1 a2 0 σ
def f_M_mix_84_p18 (k_8 : Int → Int → pS → Option (Int × pS)) : Nat → Int → Int → Int → pS → Option (Int × pS)
  | 0, _, _, _, _ => none
  | n + 1, a1, a2, a3, σ => if a2 ≤ a3 then (k_8 a1 (pw (a2 + 1)) σ) else (if 0 ≤ a2 ∧ a2 < 20 then (if (σ 88 a2.toNat) = 2 then (if 0 ≤ a3 ∧ a3 < 20 then (if (σ 88 a3.toNat) = 3 then ((f_M_haveByte_84 a2 a3 σ).bind fun q8 => (if q8.1 = 0 then (f_M_mix_84_p18 k_8 n a1 a2 (pw (a3 + 1)) q8.2) else (f_M_mix_84_p18 k_8 n (pw (a1 + 1)) a2 (pw (a3 + 1)) q8.2))) else (f_M_mix_84_p18 k_8 n a1 a2 (pw (a3 + 1)) σ)) else none) else (f_M_mix_84_p18 k_8 n a1 a2 (pw (a3 + 1)) σ)) else none)
def f_M_mix_84_p8 : Nat → Int → Int → pS → Option (Int × pS)
  | 0, _, _, _ => none
  | n + 1, a1, a2, σ => if (σ 84 2) ≤ a2 then (some (a1, σ)) else (f_M_mix_84_p18 (f_M_mix_84_p8 n) 4096 a1 a2 0 σ)
def f_M_mix_84 (σ : pS) : Option (Int × pS) := (f_M_goesPlain_84  σ).bind fun q1 => (f_M_mix_84_p8 4096 0 0 q1.2)
def f_Rows_put_82 (a1 a2 : Int) (σ : pS) : Option (Int × pS) := if 0 ≤ a1 ∧ a1 < 2 then (if 8 ≤ (σ 83 a1.toNat) then (if 0 ≤ a1 ∧ a1 < 2 then (some (σ 83 a1.toNat, σ)) else none) else (if 0 ≤ a1 ∧ a1 < 2 then (if a1 = 0 then (if 0 ≤ a1 ∧ a1 < 2 then (if 0 ≤ (σ 83 a1.toNat) ∧ (σ 83 a1.toNat) < 8 then (if 0 ≤ a1 ∧ a1 < 2 then (if 0 ≤ a1 ∧ a1 < 2 then (if 0 ≤ a1 ∧ a1 < 2 then (some ((pU (pU σ 150 ((σ 83 a1.toNat).toNat) a2) 83 (a1.toNat) (pw ((σ 83 a1.toNat) + 1))) 83 a1.toNat, pU (pU σ 150 ((σ 83 a1.toNat).toNat) a2) 83 (a1.toNat) (pw ((σ 83 a1.toNat) + 1)))) else none) else none) else none) else none) else none) else (if 0 ≤ a1 ∧ a1 < 2 then (if 0 ≤ (σ 83 a1.toNat) ∧ (σ 83 a1.toNat) < 8 then (if 0 ≤ a1 ∧ a1 < 2 then (if 0 ≤ a1 ∧ a1 < 2 then (if 0 ≤ a1 ∧ a1 < 2 then (some ((pU (pU σ 151 ((σ 83 a1.toNat).toNat) a2) 83 (a1.toNat) (pw ((σ 83 a1.toNat) + 1))) 83 a1.toNat, pU (pU σ 151 ((σ 83 a1.toNat).toNat) a2) 83 (a1.toNat) (pw ((σ 83 a1.toNat) + 1)))) else none) else none) else none) else none) else none)) else none)) else none
def f_X_watch_0_p59 (a1 a2 s0 s1 : Int) (σ : pS) : Option (Int × pS) := if s1 = s0 then ((f_Rows_put_82 a1 a2 σ).bind fun q10 => (some (q10.1, q10.2))) else (some ((-7), pU σ 82 2 (pMin 9999 (pw ((σ 82 2) + 1)))))
def f_X_watch_0 (a1 a2 : Int) (σ : pS) : Option (Int × pS) := if a1 < 0 then (some ((-1), σ)) else (if a1 < 2 then (if 0 ≤ a1 ∧ a1 < 2 then (if (σ 83 a1.toNat) < 8 then ((f_X_isOp_0 a2 σ).bind fun q5 => (if q5.1 = 0 then (some ((-1), q5.2)) else (if 0 ≤ a2 ∧ a2 < 20 then (if a1 = 0 then (f_X_watch_0_p59 a1 a2 2 (q5.2 5 a2.toNat) q5.2) else (f_X_watch_0_p59 a1 a2 3 (q5.2 5 a2.toNat) q5.2)) else none))) else (some ((-3), σ))) else none) else (some ((-1), σ)))
def f_M_watch_84 (a1 a2 : Int) (σ : pS) : Option (Int × pS) := (f_M_in a1 0 1 σ).bind fun q1 => (if q1.1 = 0 then (some ((-1), q1.2)) else ((f_M_isOp_84 a2 q1.2).bind fun q3 => (if q3.1 = 0 then (some ((-1), q3.2)) else (if 0 ≤ a1 ∧ a1 < 2 then (if (q3.2 145 a1.toNat) = 8 then (some ((-3), q3.2)) else (if 0 ≤ a2 ∧ a2 < 20 then (if (q3.2 88 a2.toNat) = (pw (2 + a1)) then (if 0 ≤ (pw ((pw (8 * a1)) + (q3.2 145 a1.toNat))) ∧ (pw ((pw (8 * a1)) + (q3.2 145 a1.toNat))) < 16 then (if 0 ≤ a1 ∧ a1 < 2 then (some (pw ((q3.2 145 a1.toNat) + 1), pU (pU q3.2 144 ((pw ((pw (8 * a1)) + (q3.2 145 a1.toNat))).toNat) a2) 145 (a1.toNat) (pw ((q3.2 145 a1.toNat) + 1)))) else none) else none) else ((f_M_min 9999 (pw ((q3.2 84 4) + 1)) q3.2).bind fun q11 => (some ((-7), pU q11.2 84 4 q11.1)))) else none)) else none))))
def f_X_watched_0 (a1 a2 a3 : Int) (σ : pS) : Option (Int × pS) := if a1 < 0 then (some ((-100000), σ)) else (if 2 ≤ a1 then (some ((-100000), σ)) else (if a2 < 0 then (some ((-100000), σ)) else (if a3 < 0 then (some ((-100000), σ)) else (if a3 ≤ 6 then (if 0 ≤ a1 ∧ a1 < 2 then (if (σ 83 a1.toNat) ≤ a2 then (some ((-4), σ)) else (if a2 < 8 then (if 0 ≤ a1 ∧ a1 < 2 then (if a1 = 0 then (if 0 ≤ a2 ∧ a2 < 8 then (if a3 = 6 then (some (σ 150 a2.toNat, σ)) else ((f_X_opIs_0 (σ 150 a2.toNat) a3 σ).bind fun q13 => (some (q13.1, q13.2)))) else none) else (if 0 ≤ a2 ∧ a2 < 8 then (if a3 = 6 then (some (σ 151 a2.toNat, σ)) else ((f_X_opIs_0 (σ 151 a2.toNat) a3 σ).bind fun q16 => (some (q16.1, q16.2)))) else none)) else none) else (some ((-4), σ)))) else none) else (some ((-100000), σ))))))
def f_M_watched_84 (a1 a2 a3 : Int) (σ : pS) : Option (Int × pS) := (f_M_in a1 0 1 σ).bind fun q1 => (if q1.1 = 0 then (some ((-100000), q1.2)) else (if a2 < 0 then (some ((-100000), q1.2)) else ((f_M_in a3 0 6 q1.2).bind fun q4 => (if q4.1 = 0 then (some ((-100000), q4.2)) else (if 0 ≤ a1 ∧ a1 < 2 then (if a2 < (q4.2 145 a1.toNat) then (if 0 ≤ (pw ((pw (8 * a1)) + a2)) ∧ (pw ((pw (8 * a1)) + a2)) < 16 then (if a3 = 6 then (some (q4.2 144 (pw ((pw (8 * a1)) + a2)).toNat, q4.2)) else ((f_M_toldOfOp_84 (q4.2 144 (pw ((pw (8 * a1)) + a2)).toNat) a3 q4.2).bind fun q10 => (some (q10.1, q10.2)))) else none) else (some ((-4), q4.2))) else none)))))
def f_State_withSet_24_p4 : Nat → Int → Int → pS → Option (Int × pS)
  | 0, _, _, _ => none
  | n + 1, a1, a2, σ => if 20 ≤ a2 then (some (a1, σ)) else (if 0 ≤ a2 ∧ a2 < 20 then (if (σ 27 a2.toNat) = (-1) then (f_State_withSet_24_p4 n a1 (pw (a2 + 1)) σ) else (f_State_withSet_24_p4 n (pw (a1 + 1)) (pw (a2 + 1)) σ)) else none)
def f_State_withSet_24 (σ : pS) : Option (Int × pS) := f_State_withSet_24_p4 4096 0 0 σ
def f_X_forget_0 (σ : pS) : Option (Int × pS) := (f_State_withSet_24  σ).bind fun q1 => ((f_State_dropSets_24  q1.2).bind fun q2 => (some (q1.1, q2.2)))
def f_M_withSet_84_p4 : Nat → Int → Int → pS → Option (Int × pS)
  | 0, _, _, _ => none
  | n + 1, a1, a2, σ => if (σ 84 2) ≤ a2 then (some (a1, σ)) else (if 0 ≤ a2 ∧ a2 < 20 then (if (σ 87 a2.toNat) = (-1) then (f_M_withSet_84_p4 n a1 (pw (a2 + 1)) σ) else (f_M_withSet_84_p4 n (pw (a1 + 1)) (pw (a2 + 1)) σ)) else none)
def f_M_withSet_84 (σ : pS) : Option (Int × pS) := f_M_withSet_84_p4 4096 0 0 σ
def f_M_forget_84_p7 : Nat → Int → Int → pS → Option (Int × pS)
  | 0, _, _, _ => none
  | n + 1, a1, a2, σ => if (σ 84 2) ≤ a2 then (some (a1, σ)) else (if 0 ≤ a2 ∧ a2 < 20 then (f_M_forget_84_p7 n a1 (pw (a2 + 1)) (pU σ 87 (a2.toNat) (-1))) else none)
def f_M_forget_84 (σ : pS) : Option (Int × pS) := (f_M_withSet_84  σ).bind fun q1 => (f_M_forget_84_p7 4096 q1.1 0 q1.2)
def f_X_seed_0 (a1 : Int) (σ : pS) : Option (Int × pS) := if a1 < 0 then (some (0, σ)) else (if a1 < 65536 then (some (1, pU σ 24 5 a1)) else (some (0, σ)))
def f_M_seed_84 (a1 : Int) (σ : pS) : Option (Int × pS) := (f_M_in a1 0 65535 σ).bind fun q1 => (if q1.1 = 0 then (some (0, q1.2)) else (some (1, pU q1.2 84 0 a1)))
def f_State_copyCellsFrom_78_24 (σ : pS) : Option (Int × pS) := some (0, pU (pU (pKp (pKp σ 25 79 8) 26 80 64) 78 4 (σ 24 4)) 78 5 (σ 24 5))
def f_State_copySetsFrom_78_24 (σ : pS) : Option (Int × pS) := some (0, pU (pKp σ 27 81 20) 78 3 (σ 24 3))
def f_State_copyFrom_78_24 (σ : pS) : Option (Int × pS) := (f_State_copyCellsFrom_78_24  σ).bind fun q1 => ((f_State_copySetsFrom_78_24  q1.2).bind fun q2 => (some (0, q2.2)))
def f_X_keep_0 (σ : pS) : Option (Int × pS) := (f_State_copyFrom_78_24  σ).bind fun q1 => (some (q1.2 24 4, pU (pU q1.2 0 9 1) 0 10 0))
def f_M_keep_84_p91 : Nat → Int → pS → Option (Int × pS)
  | 0, _, _ => none
  | n + 1, a1, σ => if 20 ≤ a1 then (some (σ 84 1, σ)) else (if 0 ≤ a1 ∧ a1 < 20 then (if 0 ≤ a1 ∧ a1 < 20 then (f_M_keep_84_p91 n (pw (a1 + 1)) (pU σ 148 (a1.toNat) (σ 87 a1.toNat))) else none) else none)
def f_M_keep_84_p65 : Nat → Int → pS → Option (Int × pS)
  | 0, _, _ => none
  | n + 1, a1, σ => if 64 ≤ a1 then (f_M_keep_84_p91 4096 0 σ) else (if 0 ≤ a1 ∧ a1 < 64 then (if 0 ≤ a1 ∧ a1 < 64 then (f_M_keep_84_p65 n (pw (a1 + 1)) (pU σ 147 (a1.toNat) (σ 86 a1.toNat))) else none) else none)
def f_M_keep_84_p39 : Nat → Int → pS → Option (Int × pS)
  | 0, _, _ => none
  | n + 1, a1, σ => if 8 ≤ a1 then (f_M_keep_84_p65 4096 0 σ) else (if 0 ≤ a1 ∧ a1 < 8 then (if 0 ≤ a1 ∧ a1 < 8 then (f_M_keep_84_p39 n (pw (a1 + 1)) (pU σ 146 (a1.toNat) (σ 85 a1.toNat))) else none) else none)
def f_M_keep_84 (σ : pS) : Option (Int × pS) := f_M_keep_84_p39 4096 0 (pU (pU (pU (pU (pU σ 84 88 1) 84 89 (σ 84 5)) 84 90 (σ 84 3)) 84 91 (σ 84 1)) 84 92 (σ 84 0))
def f_State_copyCellsFrom_24_78 (σ : pS) : Option (Int × pS) := some (0, pU (pU (pKp (pKp σ 79 25 8) 80 26 64) 24 4 (σ 78 4)) 24 5 (σ 78 5))
def f_State_copySetsFrom_24_78 (σ : pS) : Option (Int × pS) := some (0, pU (pKp σ 81 27 20) 24 3 (σ 78 3))
def f_X_undo_0 (σ : pS) : Option (Int × pS) := if (σ 0 9) = 0 then (some (0, σ)) else ((f_State_copyCellsFrom_24_78  σ).bind fun q2 => (if (q2.2 0 10) = 0 then ((f_State_copySetsFrom_24_78  q2.2).bind fun q4 => (some (1, q4.2))) else (some (1, q2.2))))
def f_M_undo_84_p100 : Nat → Int → pS → Option (Int × pS)
  | 0, _, _ => none
  | n + 1, a1, σ => if 20 ≤ a1 then (some (1, σ)) else (if 0 ≤ a1 ∧ a1 < 20 then (if 0 ≤ a1 ∧ a1 < 20 then (f_M_undo_84_p100 n (pw (a1 + 1)) (pU σ 87 (a1.toNat) (σ 148 a1.toNat))) else none) else none)
def f_M_undo_84_p53 : Nat → Int → pS → Option (Int × pS)
  | 0, _, _ => none
  | n + 1, a1, σ => if 64 ≤ a1 then (if (σ 84 89) = (σ 84 5) then (f_M_undo_84_p100 4096 0 (pU σ 84 3 (σ 84 90))) else (some (1, σ))) else (if 0 ≤ a1 ∧ a1 < 64 then (if 0 ≤ a1 ∧ a1 < 64 then (f_M_undo_84_p53 n (pw (a1 + 1)) (pU σ 86 (a1.toNat) (σ 147 a1.toNat))) else none) else none)
def f_M_undo_84_p27 : Nat → Int → pS → Option (Int × pS)
  | 0, _, _ => none
  | n + 1, a1, σ => if 8 ≤ a1 then (f_M_undo_84_p53 4096 0 σ) else (if 0 ≤ a1 ∧ a1 < 8 then (if 0 ≤ a1 ∧ a1 < 8 then (f_M_undo_84_p27 n (pw (a1 + 1)) (pU σ 85 (a1.toNat) (σ 146 a1.toNat))) else none) else none)
def f_M_undo_84 (σ : pS) : Option (Int × pS) := if (σ 84 88) = 0 then (some (0, σ)) else (f_M_undo_84_p27 4096 0 (pU (pU σ 84 1 (σ 84 91)) 84 0 (σ 84 92)))
def f_Prog_ofKind_4_p4 : Nat → Int → Int → Int → pS → Option (Int × pS)
  | 0, _, _, _, _ => none
  | n + 1, a1, a2, a3, σ => if (σ 4 11) ≤ a3 then (some (a2, σ)) else (if 0 ≤ a3 ∧ a3 < 20 then (if (σ 5 a3.toNat) = a1 then (f_Prog_ofKind_4_p4 n a1 (pw (a2 + 1)) (pw (a3 + 1)) σ) else (f_Prog_ofKind_4_p4 n a1 a2 (pw (a3 + 1)) σ)) else none)
def f_Prog_ofKind_4 (a1 : Int) (σ : pS) : Option (Int × pS) := f_Prog_ofKind_4_p4 4096 a1 0 0 σ
def f_State_bytesNotZero_24_p4 : Nat → Int → Int → pS → Option (Int × pS)
  | 0, _, _, _ => none
  | n + 1, a1, a2, σ => if 64 ≤ a2 then (some (a1, σ)) else (if 0 ≤ a2 ∧ a2 < 64 then (if (σ 26 a2.toNat) = 0 then (f_State_bytesNotZero_24_p4 n a1 (pw (a2 + 1)) σ) else (f_State_bytesNotZero_24_p4 n (pw (a1 + 1)) (pw (a2 + 1)) σ)) else none)
def f_State_bytesNotZero_24 (σ : pS) : Option (Int × pS) := f_State_bytesNotZero_24_p4 4096 0 0 σ
def f_X_count_0 (a1 : Int) (σ : pS) : Option (Int × pS) := if a1 = 0 then (some (σ 24 4, σ)) else (if a1 = 1 then (some (σ 4 11, σ)) else (if a1 = 2 then ((f_Prog_ofKind_4 2 σ).bind fun q4 => (some (q4.1, q4.2))) else (if a1 = 3 then ((f_Prog_ofKind_4 3 σ).bind fun q6 => (some (q6.1, q6.2))) else (if a1 = 4 then (some (σ 16 7, σ)) else (if a1 = 5 then (some (σ 1 1, σ)) else (if a1 = 6 then (some (σ 24 5, σ)) else (if a1 = 7 then (some (σ 82 2, σ)) else (if a1 = 8 then ((f_State_withSet_24  σ).bind fun q12 => (some (q12.1, q12.2))) else (if a1 = 9 then (some (σ 24 3, σ)) else (if a1 = 10 then (some (pw ((σ 83 0) + (σ 83 1)), σ)) else (if a1 = 11 then ((f_State_bytesNotZero_24  σ).bind fun q16 => (some (q16.1, q16.2))) else (some ((-1), σ)))))))))))))
def f_M_ofKind_84_p4 : Nat → Int → Int → Int → pS → Option (Int × pS)
  | 0, _, _, _, _ => none
  | n + 1, a1, a2, a3, σ => if (σ 84 2) ≤ a3 then (some (a2, σ)) else (if 0 ≤ a3 ∧ a3 < 20 then (if (σ 88 a3.toNat) = a1 then (f_M_ofKind_84_p4 n a1 (pw (a2 + 1)) (pw (a3 + 1)) σ) else (f_M_ofKind_84_p4 n a1 a2 (pw (a3 + 1)) σ)) else none)
def f_M_ofKind_84 (a1 : Int) (σ : pS) : Option (Int × pS) := f_M_ofKind_84_p4 4096 a1 0 0 σ
def f_M_bytesThere_84_p4 : Nat → Int → Int → pS → Option (Int × pS)
  | 0, _, _, _ => none
  | n + 1, a1, a2, σ => if 64 ≤ a2 then (some (a1, σ)) else (if 0 ≤ a2 ∧ a2 < 64 then (if (σ 86 a2.toNat) = 0 then (f_M_bytesThere_84_p4 n a1 (pw (a2 + 1)) σ) else (f_M_bytesThere_84_p4 n (pw (a1 + 1)) (pw (a2 + 1)) σ)) else none)
def f_M_bytesThere_84 (σ : pS) : Option (Int × pS) := f_M_bytesThere_84_p4 4096 0 0 σ
def f_M_count_84 (a1 : Int) (σ : pS) : Option (Int × pS) := if a1 = 0 then (some (σ 84 1, σ)) else (if a1 = 1 then (some (σ 84 2, σ)) else (if a1 = 2 then ((f_M_ofKind_84 2 σ).bind fun q4 => (some (q4.1, q4.2))) else (if a1 = 3 then ((f_M_ofKind_84 3 σ).bind fun q6 => (some (q6.1, q6.2))) else (if a1 = 4 then (some (σ 84 27, σ)) else (if a1 = 5 then (some (σ 84 18, σ)) else (if a1 = 6 then (some (σ 84 0, σ)) else (if a1 = 7 then (some (σ 84 4, σ)) else (if a1 = 8 then ((f_M_withSet_84  σ).bind fun q12 => (some (q12.1, q12.2))) else (if a1 = 9 then (some (σ 84 3, σ)) else (if a1 = 10 then (some (pw ((σ 145 0) + (σ 145 1)), σ)) else (if a1 = 11 then ((f_M_bytesThere_84  σ).bind fun q16 => (some (q16.1, q16.2))) else (some ((-1), σ)))))))))))))
