/-- what stands at a place of the text -/
def hr (tp : Nat → Int) (ln pl : Nat) : Int := if pl < ln then (Int32.ofInt (tp pl) &&& Int32.ofInt 255).toInt else -1
theorem hr_rng (tp : Nat → Int) (ln pl : Nat) : (hr tp ln pl = -1 ∧ ¬ pl < ln) ∨ (0 ≤ hr tp ln pl ∧ hr tp ln pl ≤ 255 ∧ pl < ln) := by
  unfold hr
  split
  · rename_i h
    have h1 := en_and_r (Int32.ofInt (tp pl)) (Int32.ofInt 255) (by decide)
    have h2 : (Int32.ofInt 255).toInt = 255 := by decide
    exact Or.inr ⟨h1.1, by omega, h⟩
  · rename_i h
    exact Or.inl ⟨rfl, h⟩
def kR (a b : Int) : ek := (144, [.inr 86], [], [], [(some (.inl (a, b)), [((2, 84, 19), (0, 239), none)])], 0, 0)
def kRn : ek := (144, [.inr 86], [], [], [(some (.inl (-1, -1)), [])], 0, 0)
theorem heR (l : Launch) {tp : Nat → Int} {ln : Nat} {σ : Nat → Int} {cm : Nat} {wt : Nat → Int} {wn pl : Nat} (a b : Int) (h0 : 0 ≤ a) (h : a ≤ hr tp ln pl ∧ hr tp ln pl ≤ b) : ek_ok l tQ (mV tp ln σ cm wt wn pl) (kR a b) := by
  refine hk_ek (J := fun _ _ ws => mV tp ln σ cm wt wn pl ws) (I' := mV tp ln σ cm wt wn pl) ?_ (fun w h => h) (fun i x w w' _ _ h => h)
  refine hk_ok_of (o := 9) (r := (yX9_here, prog_11_method_11_code, 1, some .int)) rfl rfl (by decide +kernel) (Nat.le_refl 1) rfl (fun p e s m args below meth c D tys aK aV b0 ad w0 C hret => ?_)
  refine ev_go_w (P := ln ≤ 240) (fun w hw h => ?_) (fun hln => ?_)
  · have h1 := (gI_rng (j := 84) (f := 20) hw rfl rfl).1.2
    rw [h.2.2.2.2.2.2] at h1
    dsimp only at h1
    omega
  have hrr := hr_rng tp ln pl
  refine hv_go C mV_hI [] [] (0, 0) [] [(8, [some (.inr 86, none)], [(.inl (0, 240), (2, 84, 20, 0)), (.inl (0, 240), (2, 84, 19, 0))], [], [])] 80 (st := (0, [some (.inr 86, none)], [], [], [])) ⟨rfl, rfl⟩ (by decide +kernel) trivial ⟨?_, trivial⟩
  refine hs_icmp C (cd := .ge) (off := 19) (pl : Int) (ln : Int) (fun ls w x y hw hl hF hI hx tx hy ty => ?_) (by decide) (by decide +kernel) (fun hc => ?_) (fun hc => ?_)
  · exact ⟨by rw [tag_f tx, hI.2.2.2.2.1]; omega, by rw [tag_f ty, hI.2.2.2.2.2.2]; omega⟩
  · have hc : (ln : Int) ≤ pl := hc
    omega
  · have hc : ¬ ((ln : Int) ≤ pl) := hc
    refine ev_go_fact 84 19 (0, 239) rfl rfl (fun w hw h => by rw [h.2.2.2.2.1]; exact ⟨by dsimp only; omega, by dsimp only; omega⟩) ?_
    refine hv_go C mV_hI [] [] (0, 0) [] [(19, [none], [(.inl (0, 239), (2, 84, 19, 0)), (.inr 98, ev_nt)], [((2, 84, 19), (0, 239), none)], [])] 80 ⟨rfl, rfl⟩ (by decide +kernel) trivial ⟨?_, trivial⟩
    refine hs_bald C (I' := mV tp ln σ cm wt wn pl) (b := (tp pl, tp pl)) (t := (2, 260, -128, 127)) ?_ rfl rfl ?_ (by decide +kernel) ?_
    · intro ls w i x hw hl hF hI hi ti i0 i1 hx hb
      have e : i.toInt = (pl : Int) := by rw [tag_f ti, hI.2.2.2.2.1]; omega
      have e2 : i.toInt.toNat = pl := by omega
      rw [hI.2.2.2.2.2.1, e2] at hx
      exact ⟨hI, by show tp pl ≤ x.toInt; omega, by show x.toInt ≤ tp pl; omega⟩
    · intro ls w i hw hl hF hI hi ti
      obtain ⟨a1, a2⟩ := hi
      dsimp only at a1 a2
      exact ⟨by omega, by show i.toInt < 260; omega⟩
    · refine ev_op_ok C mV_hI (K := []) (rm := (0, 0)) (fun _ h => absurd h List.not_mem_nil) ⟨rfl, rfl⟩ (op := .sipush 255) (len := 3) (by decide +kernel) rfl (fun st hst => ?_)
      rw [List.mem_singleton.mp hst]
      refine hs_and C (by decide +kernel) ?_
      have e3 : (Int32.ofInt (tp pl) &&& Int32.ofInt 255).toInt = hr tp ln pl := by unfold hr; rw [if_pos (by omega)]
      refine ev_op_ok C mV_hI (K := []) (rm := (0, 0)) (fun _ h => absurd h List.not_mem_nil) ⟨rfl, rfl⟩ (op := .goto 4) (len := 3) (by decide +kernel) rfl (fun st hst => ?_)
      rw [List.mem_singleton.mp hst]
      refine hs_iret C (i := 0) (fun ls w x _ _ _ hI hx _ => hI) hret rfl rfl rfl ?_ rfl rfl rfl (by decide +kernel)
      show (decide (a ≤ (Int32.ofInt (tp pl) &&& Int32.ofInt 255).toInt) && decide ((Int32.ofInt (tp pl) &&& Int32.ofInt 255).toInt ≤ b)) = true
      rw [e3]
      simp [h.1, h.2]
theorem heN (l : Launch) {tp : Nat → Int} {ln : Nat} {σ : Nat → Int} {cm : Nat} {wt : Nat → Int} {wn pl : Nat} (h : hr tp ln pl = -1) : ek_ok l tQ (mV tp ln σ cm wt wn pl) kRn := by
  refine hk_ek (J := fun _ _ ws => mV tp ln σ cm wt wn pl ws) (I' := mV tp ln σ cm wt wn pl) ?_ (fun w h => h) (fun i x w w' _ _ h => h)
  refine hk_ok_of (o := 9) (r := (yX9_here, prog_11_method_11_code, 1, some .int)) rfl rfl (by decide +kernel) (by decide) rfl (fun p e s m args below meth c D tys aK aV b0 ad w0 C hret => ?_)
  refine ev_go_w (P := ln ≤ 240) (fun w hw h => ?_) (fun hln => ?_)
  · have h1 := (gI_rng (j := 84) (f := 20) hw rfl rfl).1.2
    rw [h.2.2.2.2.2.2] at h1
    dsimp only at h1
    omega
  have hrr := hr_rng tp ln pl
  refine hv_go C mV_hI [] [] (0, 0) [] [(8, [some (.inr 86, none)], [(.inl (0, 240), (2, 84, 20, 0)), (.inl (0, 240), (2, 84, 19, 0))], [], [])] 80 (st := (0, [some (.inr 86, none)], [], [], [])) ⟨rfl, rfl⟩ (by decide +kernel) trivial ⟨?_, trivial⟩
  refine hs_icmp C (cd := .ge) (off := 19) (pl : Int) (ln : Int) (fun ls w x y hw hl hF hI hx tx hy ty => ?_) (by decide) (by decide +kernel) (fun hc => ?_) (fun hc => ?_)
  · exact ⟨by rw [tag_f tx, hI.2.2.2.2.1]; omega, by rw [tag_f ty, hI.2.2.2.2.2.2]; omega⟩
  · have hc : (ln : Int) ≤ pl := hc
    refine hv_go C mV_hI [] [] (0, 0) [] [(28, [none], [(.inl ((-1), (-1)), ev_nt)], [], [])] 80 ⟨rfl, rfl⟩ (by decide +kernel) trivial ⟨?_, trivial⟩
    exact hs_iret C (i := 0) (fun ls w x _ _ _ hI hx _ => hI) hret rfl rfl rfl (by decide) rfl rfl rfl (by decide +kernel)
  · have hc : ¬ ((ln : Int) ≤ pl) := hc
    omega
def kD1 : ek := (149, [.inr 86], [], [], [(some (.inl (1, 1)), [((2, 84, 19), (0, 239), none)])], 1, 20)
def kD0 : ek := (149, [.inr 86], [], [], [(some (.inl (0, 0)), [])], 1, 20)
theorem iD1 (l : Launch) {tp : Nat → Int} {ln : Nat} {σ : Nat → Int} {cm : Nat} {wt : Nat → Int} {wn pl : Nat} (h : 48 ≤ hr tp ln pl ∧ hr tp ln pl ≤ 57) : ek_ok l tQ (mV tp ln σ cm wt wn pl) kD1 := ek_good_ok (sp := sM) (K := [kR 48 57]) (SP := []) (HS := []) (N := 0) (fuel := 40) mV_hI (List.forall_mem_cons.mpr ⟨heR l 48 57 (by decide) h, fun _ h => absurd h List.not_mem_nil⟩) (by decide +kernel)
theorem iD0 (l : Launch) {tp : Nat → Int} {ln : Nat} {σ : Nat → Int} {cm : Nat} {wt : Nat → Int} {wn pl : Nat} (h : hr tp ln pl < 48 ∨ 57 < hr tp ln pl) : ek_ok l tQ (mV tp ln σ cm wt wn pl) kD0 := by
  rcases hr_rng tp ln pl with h1 | h1
  · exact ek_good_ok (sp := sM) (K := [kRn]) (SP := []) (HS := []) (N := 0) (fuel := 40) mV_hI (List.forall_mem_cons.mpr ⟨heN l h1.1, fun _ h => absurd h List.not_mem_nil⟩) (by decide +kernel)
  · rcases h with h | h
    · exact ek_good_ok (sp := sM) (K := [kR 0 47]) (SP := []) (HS := []) (N := 0) (fuel := 40) mV_hI (List.forall_mem_cons.mpr ⟨heR l 0 47 (by decide) (by omega), fun _ h => absurd h List.not_mem_nil⟩) (by decide +kernel)
    · exact ek_good_ok (sp := sM) (K := [kR 58 255]) (SP := []) (HS := []) (N := 0) (fuel := 40) mV_hI (List.forall_mem_cons.mpr ⟨heR l 58 255 (by decide) (by omega), fun _ h => absurd h List.not_mem_nil⟩) (by decide +kernel)
def kM : ek := (150, [.inr 86], [], [(84, 19), (84, 21), (84, 22)], [(some (.inl (0, 0)), []), (some (.inl (1, 1)), [((2, 84, 22), (0, 99999), none)])], 2, 40)
theorem rN (l : Launch) {tp : Nat → Int} {ln : Nat} {σ : Nat → Int} {cm : Nat} {wt : Nat → Int} {wn : Nat} {p0 : Nat} (hd : 48 ≤ hr tp ln p0 ∧ hr tp ln p0 ≤ 57) : hk_ok l tQ (mV tp ln σ cm wt wn p0) (fun i _ ws => i = 0 ∨ ∃ q : Nat, p0 + 1 ≤ q ∧ mV tp ln σ cm wt wn q ws) kM := by
  refine hk_ok_of (o := 9) (r := (yX9_readsNumber, prog_11_method_15_code, 2, some .boolean)) rfl rfl (by decide +kernel) (by decide) rfl (fun p e s m args below meth c D tys aK aV b0 ad w0 C hret => ?_)
  have hq : ∀ (pl k : Nat) (γ : Nat → Int), pl = p0 + k → γ 0 = (p0 : Int) → ∀ (w : va_W) (ls : Array Slot) (L : List ev_l) (x y : Int32) (q : Int × Int) (b : Nat), L[1]? = some (some (.inl q, some (0, 0))) → ev_lo tQ.length ad γ L ls → mV tp ln σ cm wt wn pl w → ev_tag ls w (2, 84, 19, 0) (.int x) → ev_tag ls w (1, 1, b, 5) (.int y) → x.toInt = pl ∧ y.toInt = (p0 : Int) + 5 := by
    intro pl k γ hk hγ w ls L x y q b hL hl hI tx ty
    obtain ⟨u, g1, g2⟩ := tag_l ty
    have g3 := lo_mark hl hL g1
    exact ⟨by rw [tag_f tx, hI.2.2.2.2.1]; omega, by omega⟩
  have st5 : ∀ γ : Nat → Int, γ 0 = (p0 : Int) → ev_go p l e (ek_rm kM) s m args below meth c (MQ below (hk_qc D tys tQ (fun i _ ws => i = 0 ∨ ∃ q : Nat, p0 + 1 ≤ q ∧ mV tp ln σ cm wt wn q ws) b0 ad w0 kM true) args s 0 0 (fun q => b0 ≤ q)) D tys tQ (mV tp ln σ cm wt wn (p0 + 5)) b0 2 ad w0 [(84, 19), (84, 21), (84, 22)] γ (10, [some (.inr 86, none), some (.inl (0, 240), some (0, 0))], [], [((2, 84, 22), (0, 99999), none)], []) := by
    intro γ hγ
    by_cases hdd : 48 ≤ hr tp ln (p0 + 5) ∧ hr tp ln (p0 + 5) ≤ 57
    · refine hv_go C mV_hI [(84, 19), (84, 21), (84, 22)] [kD1] (2, 40) [] [(24, [some (.inr 86, none), some (.inl (0, 240), some (0, 0))], [(.inl (5, 245), (1, 1, 0, 5)), (.inl (0, 239), (2, 84, 19, 0))], [], [])] 80 ⟨rfl, rfl⟩ (by decide +kernel) ⟨iD1 l hdd, trivial⟩ ⟨?_, trivial⟩
      refine hs_icmp C (cd := .ne) (off := 13) (((p0 + 5 : Nat)) : Int) ((p0 : Int) + 5) (fun ls w x y hw hl hF hI hx tx hy ty => hq (p0 + 5) 5 γ rfl hγ w ls _ x y _ _ rfl hl hI tx ty) (by decide) (by decide +kernel) (fun hc => ?_) (fun hc => ?_)
      · exact absurd rfl hc
      · refine hv_go C mV_hI [(84, 19), (84, 21), (84, 22)] [kq_193] (2, 40) [] [(36, [none, none], [(.inl (0, 0), ev_nt)], [], [])] 80 ⟨rfl, rfl⟩ (by decide +kernel) ⟨ek_upS mV_hI (fun _ _ => trivial) rfl (qk_193 l), trivial⟩ ⟨?_, trivial⟩
        exact hs_iret C (i := 0) (fun ls w x _ _ _ hI hx _ => Or.inl rfl) hret rfl rfl rfl (by decide) rfl rfl rfl (by decide +kernel)
    · refine hv_go C mV_hI [(84, 19), (84, 21), (84, 22)] [kD0] (2, 40) [] [(70, [none, none], [(.inl (1, 1), ev_nt)], [((2, 84, 22), (0, 99999), none)], [])] 80 ⟨rfl, rfl⟩ (by decide +kernel) ⟨iD0 l (by omega), trivial⟩ ⟨?_, trivial⟩
      exact hs_iret C (i := 1) (fun ls w x _ _ _ hI hx _ => Or.inr ⟨p0 + 5, by omega, hI⟩) hret rfl rfl rfl (by decide) rfl rfl rfl (by decide +kernel)
  have st4 : ∀ γ : Nat → Int, γ 0 = (p0 : Int) → ev_go p l e (ek_rm kM) s m args below meth c (MQ below (hk_qc D tys tQ (fun i _ ws => i = 0 ∨ ∃ q : Nat, p0 + 1 ≤ q ∧ mV tp ln σ cm wt wn q ws) b0 ad w0 kM true) args s 0 0 (fun q => b0 ≤ q)) D tys tQ (mV tp ln σ cm wt wn (p0 + 4)) b0 2 ad w0 [(84, 19), (84, 21), (84, 22)] γ (10, [some (.inr 86, none), some (.inl (0, 240), some (0, 0))], [], [((2, 84, 22), (0, 9999), none)], []) := by
    intro γ hγ
    by_cases hdd : 48 ≤ hr tp ln (p0 + 4) ∧ hr tp ln (p0 + 4) ≤ 57
    · refine hv_go C mV_hI [(84, 19), (84, 21), (84, 22)] [kD1] (2, 40) [] [(24, [some (.inr 86, none), some (.inl (0, 240), some (0, 0))], [(.inl (5, 245), (1, 1, 0, 5)), (.inl (0, 239), (2, 84, 19, 0))], [((2, 84, 22), (0, 9999), none), ((2, 84, 19), (0, 239), none)], [])] 80 ⟨rfl, rfl⟩ (by decide +kernel) ⟨iD1 l hdd, trivial⟩ ⟨?_, trivial⟩
      refine hs_icmp C (cd := .ne) (off := 13) (((p0 + 4 : Nat)) : Int) ((p0 : Int) + 5) (fun ls w x y hw hl hF hI hx tx hy ty => hq (p0 + 4) 4 γ rfl hγ w ls _ x y _ _ rfl hl hI tx ty) (by decide) (by decide +kernel) (fun hc => ?_) (fun hc => ?_)
      · refine hv_go C mV_hI [(84, 19), (84, 21), (84, 22)] [kR 48 57] (2, 40) [] [(63, [some (.inr 86, none), some (.inl (0, 240), some (0, 0))], [(.inl (1, 240), (2, 84, 19, 1)), (.inr 86, ev_nt)], [((2, 84, 22), (0, 99999), none)], [])] 80 ⟨rfl, rfl⟩ (by decide +kernel) ⟨heR l 48 57 (by decide) hdd, trivial⟩ ⟨?_, trivial⟩
        refine hs_put C (I' := mV tp ln σ cm wt wn (p0 + 5)) (i := 222) (ci := 9) (f := 19) (j := 84) (b := (0, 240)) ?_ (by decide +kernel) rfl (by decide) rfl rfl (by decide) (by decide) (by decide) (by decide) (by decide +kernel) ?_
        · intro ls w w' z hw hl hF hI hz tz hp hf
          exact mV_p19 hI hp (by rw [tag_f tz, hI.2.2.2.2.1]; omega)
        · refine hv_go C mV_hI [(84, 19), (84, 21), (84, 22)] [] (2, 40) [] [(10, [some (.inr 86, none), some (.inl (0, 240), some (0, 0))], [], [((2, 84, 22), (0, 99999), none)], [])] 80 ⟨rfl, rfl⟩ (by decide +kernel) trivial ⟨?_, trivial⟩
          exact st5 γ hγ
      · exfalso
        have hc : ¬ ((((p0 + 4 : Nat)) : Int) ≠ (p0 : Int) + 5) := hc
        omega
    · refine hv_go C mV_hI [(84, 19), (84, 21), (84, 22)] [kD0] (2, 40) [] [(70, [none, none], [(.inl (1, 1), ev_nt)], [((2, 84, 22), (0, 99999), none)], [])] 80 ⟨rfl, rfl⟩ (by decide +kernel) ⟨iD0 l (by omega), trivial⟩ ⟨?_, trivial⟩
      exact hs_iret C (i := 1) (fun ls w x _ _ _ hI hx _ => Or.inr ⟨p0 + 4, by omega, hI⟩) hret rfl rfl rfl (by decide) rfl rfl rfl (by decide +kernel)
  have st3 : ∀ γ : Nat → Int, γ 0 = (p0 : Int) → ev_go p l e (ek_rm kM) s m args below meth c (MQ below (hk_qc D tys tQ (fun i _ ws => i = 0 ∨ ∃ q : Nat, p0 + 1 ≤ q ∧ mV tp ln σ cm wt wn q ws) b0 ad w0 kM true) args s 0 0 (fun q => b0 ≤ q)) D tys tQ (mV tp ln σ cm wt wn (p0 + 3)) b0 2 ad w0 [(84, 19), (84, 21), (84, 22)] γ (10, [some (.inr 86, none), some (.inl (0, 240), some (0, 0))], [], [((2, 84, 22), (0, 999), none)], []) := by
    intro γ hγ
    by_cases hdd : 48 ≤ hr tp ln (p0 + 3) ∧ hr tp ln (p0 + 3) ≤ 57
    · refine hv_go C mV_hI [(84, 19), (84, 21), (84, 22)] [kD1] (2, 40) [] [(24, [some (.inr 86, none), some (.inl (0, 240), some (0, 0))], [(.inl (5, 245), (1, 1, 0, 5)), (.inl (0, 239), (2, 84, 19, 0))], [((2, 84, 22), (0, 999), none), ((2, 84, 19), (0, 239), none)], [])] 80 ⟨rfl, rfl⟩ (by decide +kernel) ⟨iD1 l hdd, trivial⟩ ⟨?_, trivial⟩
      refine hs_icmp C (cd := .ne) (off := 13) (((p0 + 3 : Nat)) : Int) ((p0 : Int) + 5) (fun ls w x y hw hl hF hI hx tx hy ty => hq (p0 + 3) 3 γ rfl hγ w ls _ x y _ _ rfl hl hI tx ty) (by decide) (by decide +kernel) (fun hc => ?_) (fun hc => ?_)
      · refine hv_go C mV_hI [(84, 19), (84, 21), (84, 22)] [kR 48 57] (2, 40) [] [(63, [some (.inr 86, none), some (.inl (0, 240), some (0, 0))], [(.inl (1, 240), (2, 84, 19, 1)), (.inr 86, ev_nt)], [((2, 84, 22), (0, 9999), none)], [])] 80 ⟨rfl, rfl⟩ (by decide +kernel) ⟨heR l 48 57 (by decide) hdd, trivial⟩ ⟨?_, trivial⟩
        refine hs_put C (I' := mV tp ln σ cm wt wn (p0 + 4)) (i := 222) (ci := 9) (f := 19) (j := 84) (b := (0, 240)) ?_ (by decide +kernel) rfl (by decide) rfl rfl (by decide) (by decide) (by decide) (by decide) (by decide +kernel) ?_
        · intro ls w w' z hw hl hF hI hz tz hp hf
          exact mV_p19 hI hp (by rw [tag_f tz, hI.2.2.2.2.1]; omega)
        · refine hv_go C mV_hI [(84, 19), (84, 21), (84, 22)] [] (2, 40) [] [(10, [some (.inr 86, none), some (.inl (0, 240), some (0, 0))], [], [((2, 84, 22), (0, 9999), none)], [])] 80 ⟨rfl, rfl⟩ (by decide +kernel) trivial ⟨?_, trivial⟩
          exact st4 γ hγ
      · exfalso
        have hc : ¬ ((((p0 + 3 : Nat)) : Int) ≠ (p0 : Int) + 5) := hc
        omega
    · refine hv_go C mV_hI [(84, 19), (84, 21), (84, 22)] [kD0] (2, 40) [] [(70, [none, none], [(.inl (1, 1), ev_nt)], [((2, 84, 22), (0, 99999), none)], [])] 80 ⟨rfl, rfl⟩ (by decide +kernel) ⟨iD0 l (by omega), trivial⟩ ⟨?_, trivial⟩
      exact hs_iret C (i := 1) (fun ls w x _ _ _ hI hx _ => Or.inr ⟨p0 + 3, by omega, hI⟩) hret rfl rfl rfl (by decide) rfl rfl rfl (by decide +kernel)
  have st2 : ∀ γ : Nat → Int, γ 0 = (p0 : Int) → ev_go p l e (ek_rm kM) s m args below meth c (MQ below (hk_qc D tys tQ (fun i _ ws => i = 0 ∨ ∃ q : Nat, p0 + 1 ≤ q ∧ mV tp ln σ cm wt wn q ws) b0 ad w0 kM true) args s 0 0 (fun q => b0 ≤ q)) D tys tQ (mV tp ln σ cm wt wn (p0 + 2)) b0 2 ad w0 [(84, 19), (84, 21), (84, 22)] γ (10, [some (.inr 86, none), some (.inl (0, 240), some (0, 0))], [], [((2, 84, 22), (0, 99), none)], []) := by
    intro γ hγ
    by_cases hdd : 48 ≤ hr tp ln (p0 + 2) ∧ hr tp ln (p0 + 2) ≤ 57
    · refine hv_go C mV_hI [(84, 19), (84, 21), (84, 22)] [kD1] (2, 40) [] [(24, [some (.inr 86, none), some (.inl (0, 240), some (0, 0))], [(.inl (5, 245), (1, 1, 0, 5)), (.inl (0, 239), (2, 84, 19, 0))], [((2, 84, 22), (0, 99), none), ((2, 84, 19), (0, 239), none)], [])] 80 ⟨rfl, rfl⟩ (by decide +kernel) ⟨iD1 l hdd, trivial⟩ ⟨?_, trivial⟩
      refine hs_icmp C (cd := .ne) (off := 13) (((p0 + 2 : Nat)) : Int) ((p0 : Int) + 5) (fun ls w x y hw hl hF hI hx tx hy ty => hq (p0 + 2) 2 γ rfl hγ w ls _ x y _ _ rfl hl hI tx ty) (by decide) (by decide +kernel) (fun hc => ?_) (fun hc => ?_)
      · refine hv_go C mV_hI [(84, 19), (84, 21), (84, 22)] [kR 48 57] (2, 40) [] [(63, [some (.inr 86, none), some (.inl (0, 240), some (0, 0))], [(.inl (1, 240), (2, 84, 19, 1)), (.inr 86, ev_nt)], [((2, 84, 22), (0, 999), none)], [])] 80 ⟨rfl, rfl⟩ (by decide +kernel) ⟨heR l 48 57 (by decide) hdd, trivial⟩ ⟨?_, trivial⟩
        refine hs_put C (I' := mV tp ln σ cm wt wn (p0 + 3)) (i := 222) (ci := 9) (f := 19) (j := 84) (b := (0, 240)) ?_ (by decide +kernel) rfl (by decide) rfl rfl (by decide) (by decide) (by decide) (by decide) (by decide +kernel) ?_
        · intro ls w w' z hw hl hF hI hz tz hp hf
          exact mV_p19 hI hp (by rw [tag_f tz, hI.2.2.2.2.1]; omega)
        · refine hv_go C mV_hI [(84, 19), (84, 21), (84, 22)] [] (2, 40) [] [(10, [some (.inr 86, none), some (.inl (0, 240), some (0, 0))], [], [((2, 84, 22), (0, 999), none)], [])] 80 ⟨rfl, rfl⟩ (by decide +kernel) trivial ⟨?_, trivial⟩
          exact st3 γ hγ
      · exfalso
        have hc : ¬ ((((p0 + 2 : Nat)) : Int) ≠ (p0 : Int) + 5) := hc
        omega
    · refine hv_go C mV_hI [(84, 19), (84, 21), (84, 22)] [kD0] (2, 40) [] [(70, [none, none], [(.inl (1, 1), ev_nt)], [((2, 84, 22), (0, 99999), none)], [])] 80 ⟨rfl, rfl⟩ (by decide +kernel) ⟨iD0 l (by omega), trivial⟩ ⟨?_, trivial⟩
      exact hs_iret C (i := 1) (fun ls w x _ _ _ hI hx _ => Or.inr ⟨p0 + 2, by omega, hI⟩) hret rfl rfl rfl (by decide) rfl rfl rfl (by decide +kernel)
  have st1 : ∀ γ : Nat → Int, γ 0 = (p0 : Int) → ev_go p l e (ek_rm kM) s m args below meth c (MQ below (hk_qc D tys tQ (fun i _ ws => i = 0 ∨ ∃ q : Nat, p0 + 1 ≤ q ∧ mV tp ln σ cm wt wn q ws) b0 ad w0 kM true) args s 0 0 (fun q => b0 ≤ q)) D tys tQ (mV tp ln σ cm wt wn (p0 + 1)) b0 2 ad w0 [(84, 19), (84, 21), (84, 22)] γ (10, [some (.inr 86, none), some (.inl (0, 240), some (0, 0))], [], [((2, 84, 22), (0, 9), none)], []) := by
    intro γ hγ
    by_cases hdd : 48 ≤ hr tp ln (p0 + 1) ∧ hr tp ln (p0 + 1) ≤ 57
    · refine hv_go C mV_hI [(84, 19), (84, 21), (84, 22)] [kD1] (2, 40) [] [(24, [some (.inr 86, none), some (.inl (0, 240), some (0, 0))], [(.inl (5, 245), (1, 1, 0, 5)), (.inl (0, 239), (2, 84, 19, 0))], [((2, 84, 22), (0, 9), none), ((2, 84, 19), (0, 239), none)], [])] 80 ⟨rfl, rfl⟩ (by decide +kernel) ⟨iD1 l hdd, trivial⟩ ⟨?_, trivial⟩
      refine hs_icmp C (cd := .ne) (off := 13) (((p0 + 1 : Nat)) : Int) ((p0 : Int) + 5) (fun ls w x y hw hl hF hI hx tx hy ty => hq (p0 + 1) 1 γ rfl hγ w ls _ x y _ _ rfl hl hI tx ty) (by decide) (by decide +kernel) (fun hc => ?_) (fun hc => ?_)
      · refine hv_go C mV_hI [(84, 19), (84, 21), (84, 22)] [kR 48 57] (2, 40) [] [(63, [some (.inr 86, none), some (.inl (0, 240), some (0, 0))], [(.inl (1, 240), (2, 84, 19, 1)), (.inr 86, ev_nt)], [((2, 84, 22), (0, 99), none)], [])] 80 ⟨rfl, rfl⟩ (by decide +kernel) ⟨heR l 48 57 (by decide) hdd, trivial⟩ ⟨?_, trivial⟩
        refine hs_put C (I' := mV tp ln σ cm wt wn (p0 + 2)) (i := 222) (ci := 9) (f := 19) (j := 84) (b := (0, 240)) ?_ (by decide +kernel) rfl (by decide) rfl rfl (by decide) (by decide) (by decide) (by decide) (by decide +kernel) ?_
        · intro ls w w' z hw hl hF hI hz tz hp hf
          exact mV_p19 hI hp (by rw [tag_f tz, hI.2.2.2.2.1]; omega)
        · refine hv_go C mV_hI [(84, 19), (84, 21), (84, 22)] [] (2, 40) [] [(10, [some (.inr 86, none), some (.inl (0, 240), some (0, 0))], [], [((2, 84, 22), (0, 99), none)], [])] 80 ⟨rfl, rfl⟩ (by decide +kernel) trivial ⟨?_, trivial⟩
          exact st2 γ hγ
      · exfalso
        have hc : ¬ ((((p0 + 1 : Nat)) : Int) ≠ (p0 : Int) + 5) := hc
        omega
    · refine hv_go C mV_hI [(84, 19), (84, 21), (84, 22)] [kD0] (2, 40) [] [(70, [none, none], [(.inl (1, 1), ev_nt)], [((2, 84, 22), (0, 99999), none)], [])] 80 ⟨rfl, rfl⟩ (by decide +kernel) ⟨iD0 l (by omega), trivial⟩ ⟨?_, trivial⟩
      exact hs_iret C (i := 1) (fun ls w x _ _ _ hI hx _ => Or.inr ⟨p0 + 1, by omega, hI⟩) hret rfl rfl rfl (by decide) rfl rfl rfl (by decide +kernel)
  have st0 : ∀ γ : Nat → Int, γ 0 = (p0 : Int) → ev_go p l e (ek_rm kM) s m args below meth c (MQ below (hk_qc D tys tQ (fun i _ ws => i = 0 ∨ ∃ q : Nat, p0 + 1 ≤ q ∧ mV tp ln σ cm wt wn q ws) b0 ad w0 kM true) args s 0 0 (fun q => b0 ≤ q)) D tys tQ (mV tp ln σ cm wt wn (p0 + 0)) b0 2 ad w0 [(84, 19), (84, 21), (84, 22)] γ (10, [some (.inr 86, none), some (.inl (0, 240), some (0, 0))], [], [((2, 84, 22), (0, 0), none)], []) := by
    intro γ hγ
    by_cases hdd : 48 ≤ hr tp ln (p0 + 0) ∧ hr tp ln (p0 + 0) ≤ 57
    · refine hv_go C mV_hI [(84, 19), (84, 21), (84, 22)] [kD1] (2, 40) [] [(24, [some (.inr 86, none), some (.inl (0, 240), some (0, 0))], [(.inl (5, 245), (1, 1, 0, 5)), (.inl (0, 239), (2, 84, 19, 0))], [((2, 84, 22), (0, 0), none), ((2, 84, 19), (0, 239), none)], [])] 80 ⟨rfl, rfl⟩ (by decide +kernel) ⟨iD1 l hdd, trivial⟩ ⟨?_, trivial⟩
      refine hs_icmp C (cd := .ne) (off := 13) (((p0 + 0 : Nat)) : Int) ((p0 : Int) + 5) (fun ls w x y hw hl hF hI hx tx hy ty => hq (p0 + 0) 0 γ rfl hγ w ls _ x y _ _ rfl hl hI tx ty) (by decide) (by decide +kernel) (fun hc => ?_) (fun hc => ?_)
      · refine hv_go C mV_hI [(84, 19), (84, 21), (84, 22)] [kR 48 57] (2, 40) [] [(63, [some (.inr 86, none), some (.inl (0, 240), some (0, 0))], [(.inl (1, 240), (2, 84, 19, 1)), (.inr 86, ev_nt)], [((2, 84, 22), (0, 9), none)], [])] 80 ⟨rfl, rfl⟩ (by decide +kernel) ⟨heR l 48 57 (by decide) hdd, trivial⟩ ⟨?_, trivial⟩
        refine hs_put C (I' := mV tp ln σ cm wt wn (p0 + 1)) (i := 222) (ci := 9) (f := 19) (j := 84) (b := (0, 240)) ?_ (by decide +kernel) rfl (by decide) rfl rfl (by decide) (by decide) (by decide) (by decide) (by decide +kernel) ?_
        · intro ls w w' z hw hl hF hI hz tz hp hf
          exact mV_p19 hI hp (by rw [tag_f tz, hI.2.2.2.2.1]; omega)
        · refine hv_go C mV_hI [(84, 19), (84, 21), (84, 22)] [] (2, 40) [] [(10, [some (.inr 86, none), some (.inl (0, 240), some (0, 0))], [], [((2, 84, 22), (0, 9), none)], [])] 80 ⟨rfl, rfl⟩ (by decide +kernel) trivial ⟨?_, trivial⟩
          exact st1 γ hγ
      · exfalso
        have hc : ¬ ((((p0 + 0 : Nat)) : Int) ≠ (p0 : Int) + 5) := hc
        omega
    · exact absurd hd hdd
  refine hv_go C mV_hI [(84, 19), (84, 21), (84, 22)] [] (2, 40) [] [(4, [some (.inr 86, none), none], [(.inl (0, 240), (2, 84, 19, 0))], [], [])] 80 ⟨rfl, rfl⟩ (by decide +kernel) trivial ⟨?_, trivial⟩
  refine ev_go_top (q' := ((p0 : Int), (p0 : Int))) (t' := ev_nt) (fun ls w y _ hl _ hI hy ty => ⟨?_, ev_tag0⟩) ?_
  · have e : y.toInt = (p0 : Int) := by rw [tag_f ty, hI.2.2.2.2.1]; omega
    exact ⟨by show (p0 : Int) ≤ y.toInt; omega, by show y.toInt ≤ (p0 : Int); omega⟩
  · refine ev_go_w (P := p0 ≤ 240) (fun w hw h => mV_240 hw h) (fun hpl => ?_)
    refine ev_op_ok C mV_hI (K := []) (rm := (2, 40)) (fun _ h => absurd h List.not_mem_nil) ⟨rfl, rfl⟩ (op := .istore_n 1) (len := 1) (by decide +kernel) rfl (fun st hst => ?_)
    rw [List.mem_singleton.mp hst]
    refine ev_go_gam (γ' := fun _ => (p0 : Int)) rfl ?_
    refine ev_go_mark (i := 1) (n := 0) (q' := (0, 240)) (v := (p0 : Int)) rfl ⟨by dsimp only; omega, by dsimp only; omega⟩ rfl ?_
    refine hv_go C mV_hI [(84, 19), (84, 21), (84, 22)] [] (2, 40) [] [(10, [some (.inr 86, none), some (.inl (0, 240), some (0, 0))], [], [((2, 84, 22), (0, 0), none)], [])] 80 (st := (5, [some (.inr 86, none), some (.inl (0, 240), some (0, 0))], [], [], [])) ⟨rfl, rfl⟩ (by decide +kernel) trivial ⟨?_, trivial⟩
    exact st0 _ rfl
