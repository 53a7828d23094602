def ev_z (q : ev_l) : ev_l := match q with
  | some (a, some (n, _)) => some (a, some (n, 0))
  | _ => q
def ev_rmk (γ γ' : Nat → Int) : List ev_l → Prop
  | [] => True
  | some (_, some (n, d)) :: r => γ' n = γ n + d ∧ ev_rmk γ γ' r
  | _ :: r => ev_rmk γ γ' r
theorem ev_rmk_get {γ γ' : Nat → Int} : ∀ {L : List ev_l} {i : Nat} {a : en_V} {n : Nat} {d : Int}, ev_rmk γ γ' L → L[i]? = some (some (a, some (n, d))) → γ' n = γ n + d
  | [], i, a, n, d, _, h => by simp at h
  | some (b, some (m, f)) :: r, 0, a, n, d, h, hi => by
    simp only [List.getElem?_cons_zero, Option.some.injEq, Prod.mk.injEq] at hi
    obtain ⟨-, rfl, rfl⟩ := hi
    exact h.1
  | some (b, none) :: r, 0, a, n, d, h, hi => by simp at hi
  | none :: r, 0, a, n, d, h, hi => by simp at hi
  | some (b, some (m, f)) :: r, i + 1, a, n, d, h, hi => by
    rw [List.getElem?_cons_succ] at hi
    exact ev_rmk_get h.2 hi
  | some (b, none) :: r, i + 1, a, n, d, h, hi => by
    rw [List.getElem?_cons_succ] at hi
    exact ev_rmk_get (show ev_rmk γ γ' r from h) hi
  | none :: r, i + 1, a, n, d, h, hi => by
    rw [List.getElem?_cons_succ] at hi
    exact ev_rmk_get (show ev_rmk γ γ' r from h) hi
theorem ev_go_rm {p : Program} {l : Launch} {e : Env} {R : Room} {s : State} {m : MethodId} {args : Array Value} {below : List Frame} {meth : Method} {c : Code} {Q : State → Prop} {D : va_G} {tys : List (ClassId × FieldType)} {T : en_T} {I : va_W → Prop} {b0 nL : Nat} {ad : Nat → Nat} {w0 : va_W} {Wr : List (Nat × Nat)} {γ γ' : Nat → Int} {pc : Nat} {L : List ev_l} {S : List ev_s} {RS : List ev_r} (h : ev_rmk γ γ' L) (k : ev_go p l e R s m args below meth c Q D tys T I b0 nL ad w0 Wr γ' (pc, L.map ev_z, S, [], RS)) : ev_go p l e R s m args below meth c Q D tys T I b0 nL ad w0 Wr γ (pc, L, S, [], RS) := by
  intro H locs ls stk ws ha
  dsimp only at ha
  obtain ⟨⟨z1, z2, z3⟩, hl, hs, hF, hr⟩ := ha
  refine k H locs ls stk ws ⟨⟨z1, z2, by dsimp only; rw [List.length_map]; exact z3⟩, fun i u hi => ?_, hs, fun f hf => absurd hf List.not_mem_nil, hr⟩
  dsimp only at hi
  rw [List.getElem?_map] at hi
  cases hL : L[i]? with
  | none => rw [hL] at hi; cases hi
  | some q =>
    rw [hL] at hi
    cases q with
    | none => cases hi
    | some q =>
      obtain ⟨a, g⟩ := q
      obtain ⟨x, h1, h2, h3⟩ := hl i _ hL
      cases g with
      | none =>
        cases hi
        exact ⟨x, h1, h2, trivial⟩
      | some g =>
        obtain ⟨n, d⟩ := g
        cases hi
        obtain ⟨y, e1, e2⟩ := h3
        refine ⟨x, h1, h2, y, e1, ?_⟩
        have := ev_rmk_get h hL
        dsimp only at e2 ⊢
        omega
def kRk (a b : Int) : ek := (203, [.inr 86, .inl (a, a), .inl (b, b)], [], [(108, 999)], [(some (.inl (-2147483648, 2147483647)), [])], 1, 22)
def fV (f : Nat → Int) (ws : va_W) : Prop := gA ws 103 = f
theorem fV_hI {f : Nat → Int} : ev_hI (fV f) [(103, 999)] := fun W1 w w' h1 h2 h => (gA_fr h2 (fun h => h1 _ h (by simp))).trans h
theorem rk (l : Launch) {f : Nat → Int} {a b : Nat} (hs : mSeg f a b) : hk_ok l tQ (fV f) (fun _ _ ws => fV f ws) (kRk a b) := by
  obtain ⟨hab, hb, D0, hD0, hok⟩ := hs
  refine hk_ok_of (o := 9) (r := (yX9_reckonsTo, prog_11_method_34_code, 8, some .int)) rfl rfl (by decide +kernel) (Nat.le_of_ble_eq_true rfl) rfl (fun p e s m args below meth c D tys aK aV b0 ad w0 C hret => ?_)
  have loop : ∀ (d n k : Nat) (γ : Nat → Int), γ 0 = (n : Int) → γ 1 = (k : Int) → γ 2 = (b : Int) → 241 - k = d → a ≤ k → k ≤ 240 → n ≤ k → (k < b → D0 k ≤ n) → ev_go p l e (ek_rm (kRk a b)) s m args below meth c (MQ below (hk_qc D tys tQ (fun _ _ ws => fV f ws) b0 ad w0 (kRk a b) true) args s 0 0 (fun q => b0 ≤ q)) D tys tQ (fV f) b0 8 ad w0 [(108, 999)] γ (16, [some (.inr 86, none), none, some (.inl (0, 240), some (2, 0)), some (.inl (0, 240), some (0, 0)), some (.inl (0, 0), none), some (.inl (0, 240), some (1, 0)), none, none], [], [], []) := by
    intro d
    induction d using Nat.strongRecOn with
    | _ d ih =>
      intro n k γ hγ0 hγ1 hγ2 hd hak hk hnk hDn
      refine hv_go C fV_hI [(108, 999)] [] (1, 22) [] [(19, [some (.inr 86, none), none, some (.inl (0, 240), some (2, 0)), some (.inl (0, 240), some (0, 0)), some (.inl (0, 0), none), some (.inl (0, 240), some (1, 0)), none, none], [(.inl (0, 240), (1, 2, 0, 0)), (.inl (0, 240), (1, 5, 0, 0))], [], [])] 80 ⟨rfl, rfl⟩ (by decide +kernel) trivial ⟨?_, trivial⟩
      refine hs_icmp C (cd := .ge) (off := 214) (k : Int) (b : Int) (fun ls w x y hw hl hF hI hx tx hy ty => ?_) (by decide) (by decide +kernel) (fun hc => ?_) (fun hc => ?_)
      · obtain ⟨u, g1, g2⟩ := tag_l tx
        have g3 := lo_mark (i := 5) (n := 1) (d := 0) hl rfl g1
        obtain ⟨u', g1', g2'⟩ := tag_l ty
        have g3' := lo_mark (i := 2) (n := 2) (d := 0) hl rfl g1'
        exact ⟨by omega, by omega⟩
      · refine hv_go C fV_hI [(108, 999)] [] (1, 22) [] [(239, [none, none, none, none, none, none, none, none], [(.inl ((-2147483648), 2147483647), ev_nt)], [], [])] 80 ⟨rfl, rfl⟩ (by decide +kernel) trivial ⟨?_, trivial⟩
        exact hs_iret C (i := 0) (fun ls w x _ _ _ hI hx _ => hI) hret rfl rfl rfl (by decide) rfl rfl rfl (by decide +kernel)
      · have hc : ¬ ((b : Int) ≤ k) := hc
        have hkb : k < b := by omega
        have hDk := hDn hkb
        have hio := hok k hak hkb
        refine ev_go_lset (i := 5) (n := 1) (d := 0) (q' := (0, 239)) rfl ⟨by dsimp only; omega, by dsimp only; omega⟩ ?_
        have nxt : ∀ (n' k' : Nat) (γ' : Nat → Int), γ' 0 = (n' : Int) → γ' 1 = (k' : Int) → γ' 2 = (b : Int) → k < k' → k' ≤ 240 → n' ≤ k' → (k' < b → D0 k' ≤ n') → ev_go p l e (ek_rm (kRk a b)) s m args below meth c (MQ below (hk_qc D tys tQ (fun _ _ ws => fV f ws) b0 ad w0 (kRk a b) true) args s 0 0 (fun q => b0 ≤ q)) D tys tQ (fV f) b0 8 ad w0 [(108, 999)] γ' (16, [some (.inr 86, none), none, some (.inl (0, 240), some (2, 0)), some (.inl (0, 240), some (0, 0)), some (.inl (0, 0), none), some (.inl (0, 240), some (1, 0)), none, none], [], [], []) := fun n' k' γ' e0 e1 e2 e3 e4 e5 e6 => ih (241 - k') (by omega) n' k' γ' e0 e1 e2 rfl (by omega) e4 e5 e6
        rcases hio with ⟨h0, hio⟩
        rcases hio with ⟨hv, hD1⟩ | ⟨hv1, hv2, hD1⟩ | ⟨hv, hD1, hD2⟩ | ⟨hv, hD1, hD2, hj1, hj2, hj3⟩ | ⟨hv1, hv2, hD1, hD2⟩
        · refine ev_go_lset (i := 3) (n := 0) (d := 0) (q' := (0, 239)) rfl ⟨by dsimp only; omega, by dsimp only; omega⟩ ?_
          refine hv_go C fV_hI [(108, 999)] [] (1, 22) [] [(28, [some (.inr 86, none), none, some (.inl (0, 240), some (2, 0)), some (.inl (0, 239), some (0, 0)), some (.inl (0, 0), none), some (.inl (0, 239), some (1, 0)), none, none], [(.inl (0, 239), (1, 5, 0, 0)), (.inr 105, ev_nt)], [], [])] 80 ⟨rfl, rfl⟩ (by decide +kernel) trivial ⟨?_, trivial⟩
          refine hs_ald C (I' := fV f) (b := (0, 1048575)) (t := (0, 260, -2147483648, 2147483647)) ?_ rfl rfl ?_ (by decide +kernel) ?_
          · intro ls w i x hw hl hF hI hi ti i0 i1 hx hb
            obtain ⟨u, g1, g2⟩ := tag_l ti
            have g3 := lo_mark (i := 5) (n := 1) (d := 0) hl rfl g1
            rw [hγ1] at g3
            have e2 : i.toInt.toNat = k := by omega
            have e3 : gA w 103 = f := hI
            rw [e3, e2] at hx
            exact ⟨hI, by show 0 ≤ x.toInt; omega, by show x.toInt ≤ 1048575; omega⟩
          · intro ls w i hw hl hF hI hi ti
            obtain ⟨a1, a2⟩ := hi
            dsimp only at a1 a2
            exact ⟨by omega, by show i.toInt < 260; omega⟩
          · refine hv_go C fV_hI [(108, 999)] [] (1, 22) [] [(40, [some (.inr 86, none), none, some (.inl (0, 240), some (2, 0)), some (.inl (0, 239), some (0, 0)), some (.inl (0, 0), none), some (.inl (0, 239), some (1, 0)), some (.inl (0, 0), none), none], [(.inl (0, 239), (1, 5, 0, 0)), (.inr 105, ev_nt)], [], [])] 80 ⟨rfl, rfl⟩ (by decide +kernel) trivial ⟨?_, trivial⟩
            refine hs_ald C (I' := fV f) (b := (0, 1048575)) (t := (0, 260, -2147483648, 2147483647)) ?_ rfl rfl ?_ (by decide +kernel) ?_
            · intro ls w i x hw hl hF hI hi ti i0 i1 hx hb
              obtain ⟨u, g1, g2⟩ := tag_l ti
              have g3 := lo_mark (i := 5) (n := 1) (d := 0) hl rfl g1
              rw [hγ1] at g3
              have e2 : i.toInt.toNat = k := by omega
              have e3 : gA w 103 = f := hI
              rw [e3, e2] at hx
              exact ⟨hI, by show 0 ≤ x.toInt; omega, by show x.toInt ≤ 1048575; omega⟩
            · intro ls w i hw hl hF hI hi ti
              obtain ⟨a1, a2⟩ := hi
              dsimp only at a1 a2
              exact ⟨by omega, by show i.toInt < 260; omega⟩
            · refine hv_go C fV_hI [(108, 999)] [] (1, 22) [] [(16, [some (.inr 86, none), none, some (.inl (0, 240), some (2, 0)), some (.inl (0, 240), some (0, 1)), some (.inl (0, 0), none), some (.inl (0, 240), some (1, 1)), none, none], [], [], [])] 80 ⟨rfl, rfl⟩ (by decide +kernel) trivial ⟨?_, trivial⟩
              refine ev_go_rm (γ' := (fun q => match q with | 0 => ((n + 1 : Nat) : Int) | 1 => ((k + 1 : Nat) : Int) | _ => (b : Int))) ⟨by show (b : Int) = _; omega, by show ((n + 1 : Nat) : Int) = _; omega, by show ((k + 1 : Nat) : Int) = _; omega, trivial⟩ ?_
              exact nxt (n + 1) (k + 1) _ rfl rfl rfl (by omega) (by omega) (by omega) (fun _ => by omega)
        · refine ev_go_lset (i := 3) (n := 0) (d := 0) (q' := (0, 239)) rfl ⟨by dsimp only; omega, by dsimp only; omega⟩ ?_
          refine hv_go C fV_hI [(108, 999)] [] (1, 22) [] [(28, [some (.inr 86, none), none, some (.inl (0, 240), some (2, 0)), some (.inl (0, 239), some (0, 0)), some (.inl (0, 0), none), some (.inl (0, 239), some (1, 0)), none, none], [(.inl (0, 239), (1, 5, 0, 0)), (.inr 105, ev_nt)], [], [])] 80 ⟨rfl, rfl⟩ (by decide +kernel) trivial ⟨?_, trivial⟩
          refine hs_ald C (I' := fV f) (b := (1048576, 1048582)) (t := (0, 260, -2147483648, 2147483647)) ?_ rfl rfl ?_ (by decide +kernel) ?_
          · intro ls w i x hw hl hF hI hi ti i0 i1 hx hb
            obtain ⟨u, g1, g2⟩ := tag_l ti
            have g3 := lo_mark (i := 5) (n := 1) (d := 0) hl rfl g1
            rw [hγ1] at g3
            have e2 : i.toInt.toNat = k := by omega
            have e3 : gA w 103 = f := hI
            rw [e3, e2] at hx
            exact ⟨hI, by show 1048576 ≤ x.toInt; omega, by show x.toInt ≤ 1048582; omega⟩
          · intro ls w i hw hl hF hI hi ti
            obtain ⟨a1, a2⟩ := hi
            dsimp only at a1 a2
            exact ⟨by omega, by show i.toInt < 260; omega⟩
          · refine hv_go C fV_hI [(108, 999)] [] (1, 22) [] [(40, [some (.inr 86, none), none, some (.inl (0, 240), some (2, 0)), some (.inl (0, 239), some (0, 0)), some (.inl (0, 0), none), some (.inl (0, 239), some (1, 0)), some (.inl (1, 1), none), none], [(.inl (0, 239), (1, 5, 0, 0)), (.inr 105, ev_nt)], [], [])] 80 ⟨rfl, rfl⟩ (by decide +kernel) trivial ⟨?_, trivial⟩
            refine hs_ald C (I' := fV f) (b := (f k, f k)) (t := (0, 260, -2147483648, 2147483647)) ?_ rfl rfl ?_ (by decide +kernel) ?_
            · intro ls w i x hw hl hF hI hi ti i0 i1 hx hb
              obtain ⟨u, g1, g2⟩ := tag_l ti
              have g3 := lo_mark (i := 5) (n := 1) (d := 0) hl rfl g1
              rw [hγ1] at g3
              have e2 : i.toInt.toNat = k := by omega
              have e3 : gA w 103 = f := hI
              rw [e3, e2] at hx
              exact ⟨hI, by show f k ≤ x.toInt; omega, by show x.toInt ≤ f k; omega⟩
            · intro ls w i hw hl hF hI hi ti
              obtain ⟨a1, a2⟩ := hi
              dsimp only at a1 a2
              exact ⟨by omega, by show i.toInt < 260; omega⟩
            · refine ev_op_ok C fV_hI (K := []) (rm := (1, 22)) (fun _ h => absurd h List.not_mem_nil) ⟨rfl, rfl⟩ (op := .ldc 249) (len := 2) (by decide +kernel) rfl (fun st hst => ?_)
              rw [List.mem_singleton.mp hst]
              refine hs_rem C (v := f k) (d := 1048576) (by decide) (by decide +kernel) ?_
              have e : (f k).tmod 1048576 = f k % 1048576 := Int.tmod_eq_emod_of_nonneg h0
              refine ev_go_top (q' := (0, 6)) (t' := ev_nt) (fun ls w y _ hl _ hI hy ty => ⟨?_, ev_tag0⟩) ?_
              · have a1 := hy.1
                have a2 := hy.2
                dsimp only at a1 a2
                exact ⟨by show 0 ≤ y.toInt; omega, by show y.toInt ≤ 6; omega⟩
              · refine hv_go C fV_hI [(108, 999)] [] (1, 22) [] [(16, [some (.inr 86, none), none, some (.inl (0, 240), some (2, 0)), some (.inl (0, 240), some (0, 1)), some (.inl (0, 0), none), some (.inl (0, 240), some (1, 1)), none, none], [], [], [])] 80 (st := (44, [some (.inr 86, none), none, some (.inl (0, 240), some (2, 0)), some (.inl (0, 239), some (0, 0)), some (.inl (0, 0), none), some (.inl (0, 239), some (1, 0)), some (.inl (1, 1), none), none], [(.inl (0, 6), ev_nt)], [], [])) ⟨rfl, rfl⟩ (by decide +kernel) trivial ⟨?_, trivial⟩
                refine ev_go_rm (γ' := (fun q => match q with | 0 => ((n + 1 : Nat) : Int) | 1 => ((k + 1 : Nat) : Int) | _ => (b : Int))) ⟨by show (b : Int) = _; omega, by show ((n + 1 : Nat) : Int) = _; omega, by show ((k + 1 : Nat) : Int) = _; omega, trivial⟩ ?_
                exact nxt (n + 1) (k + 1) _ rfl rfl rfl (by omega) (by omega) (by omega) (fun _ => by omega)
        · refine ev_go_lset (i := 3) (n := 0) (d := 0) (q' := (1, 239)) rfl ⟨by dsimp only; omega, by dsimp only; omega⟩ ?_
          refine hv_go C fV_hI [(108, 999)] [] (1, 22) [] [(28, [some (.inr 86, none), none, some (.inl (0, 240), some (2, 0)), some (.inl (1, 239), some (0, 0)), some (.inl (0, 0), none), some (.inl (0, 239), some (1, 0)), none, none], [(.inl (0, 239), (1, 5, 0, 0)), (.inr 105, ev_nt)], [], [])] 80 ⟨rfl, rfl⟩ (by decide +kernel) trivial ⟨?_, trivial⟩
          refine hs_ald C (I' := fV f) (b := (10485760, 11534335)) (t := (0, 260, -2147483648, 2147483647)) ?_ rfl rfl ?_ (by decide +kernel) ?_
          · intro ls w i x hw hl hF hI hi ti i0 i1 hx hb
            obtain ⟨u, g1, g2⟩ := tag_l ti
            have g3 := lo_mark (i := 5) (n := 1) (d := 0) hl rfl g1
            rw [hγ1] at g3
            have e2 : i.toInt.toNat = k := by omega
            have e3 : gA w 103 = f := hI
            rw [e3, e2] at hx
            exact ⟨hI, by show 10485760 ≤ x.toInt; omega, by show x.toInt ≤ 11534335; omega⟩
          · intro ls w i hw hl hF hI hi ti
            obtain ⟨a1, a2⟩ := hi
            dsimp only at a1 a2
            exact ⟨by omega, by show i.toInt < 260; omega⟩
          · refine hv_go C fV_hI [(108, 999)] [] (1, 22) [] [(40, [some (.inr 86, none), none, some (.inl (0, 240), some (2, 0)), some (.inl (1, 239), some (0, 0)), some (.inl (0, 0), none), some (.inl (0, 239), some (1, 0)), some (.inl (10, 10), none), none], [(.inl (0, 239), (1, 5, 0, 0)), (.inr 105, ev_nt)], [], [])] 80 ⟨rfl, rfl⟩ (by decide +kernel) trivial ⟨?_, trivial⟩
            refine hs_ald C (I' := fV f) (b := (10485760, 11534335)) (t := (0, 260, -2147483648, 2147483647)) ?_ rfl rfl ?_ (by decide +kernel) ?_
            · intro ls w i x hw hl hF hI hi ti i0 i1 hx hb
              obtain ⟨u, g1, g2⟩ := tag_l ti
              have g3 := lo_mark (i := 5) (n := 1) (d := 0) hl rfl g1
              rw [hγ1] at g3
              have e2 : i.toInt.toNat = k := by omega
              have e3 : gA w 103 = f := hI
              rw [e3, e2] at hx
              exact ⟨hI, by show 10485760 ≤ x.toInt; omega, by show x.toInt ≤ 11534335; omega⟩
            · intro ls w i hw hl hF hI hi ti
              obtain ⟨a1, a2⟩ := hi
              dsimp only at a1 a2
              exact ⟨by omega, by show i.toInt < 260; omega⟩
            · refine hv_go C fV_hI [(108, 999)] [] (1, 22) [] [(16, [some (.inr 86, none), none, some (.inl (0, 240), some (2, 0)), some (.inl (0, 240), some (0, 0)), some (.inl (0, 0), none), some (.inl (0, 240), some (1, 1)), none, none], [], [], [])] 80 ⟨rfl, rfl⟩ (by decide +kernel) trivial ⟨?_, trivial⟩
              refine ev_go_rm (γ' := (fun q => match q with | 0 => ((n : Nat) : Int) | 1 => ((k + 1 : Nat) : Int) | _ => (b : Int))) ⟨by show (b : Int) = _; omega, by show ((n : Nat) : Int) = _; omega, by show ((k + 1 : Nat) : Int) = _; omega, trivial⟩ ?_
              exact nxt (n) (k + 1) _ rfl rfl rfl (by omega) (by omega) (by omega) (fun _ => by omega)
        · obtain ⟨tg, htg⟩ : ∃ tg : Nat, f k % 1048576 = (tg : Int) := ⟨(f k % 1048576).toNat, by omega⟩
          rw [htg] at hj1 hj2 hj3
          rw [show (tg : Int).toNat = tg from rfl] at hj3
          rcases hv with hv | hv
          · refine ev_go_lset (i := 3) (n := 0) (d := 0) (q' := (1, 239)) rfl ⟨by dsimp only; omega, by dsimp only; omega⟩ ?_
            refine hv_go C fV_hI [(108, 999)] [] (1, 22) [] [(28, [some (.inr 86, none), none, some (.inl (0, 240), some (2, 0)), some (.inl (1, 239), some (0, 0)), some (.inl (0, 0), none), some (.inl (0, 239), some (1, 0)), none, none], [(.inl (0, 239), (1, 5, 0, 0)), (.inr 105, ev_nt)], [], [])] 80 ⟨rfl, rfl⟩ (by decide +kernel) trivial ⟨?_, trivial⟩
            refine hs_ald C (I' := fV f) (b := (11534336, 12582911)) (t := (0, 260, -2147483648, 2147483647)) ?_ rfl rfl ?_ (by decide +kernel) ?_
            · intro ls w i x hw hl hF hI hi ti i0 i1 hx hb
              obtain ⟨u, g1, g2⟩ := tag_l ti
              have g3 := lo_mark (i := 5) (n := 1) (d := 0) hl rfl g1
              rw [hγ1] at g3
              have e2 : i.toInt.toNat = k := by omega
              have e3 : gA w 103 = f := hI
              rw [e3, e2] at hx
              exact ⟨hI, by show 11534336 ≤ x.toInt; omega, by show x.toInt ≤ 12582911; omega⟩
            · intro ls w i hw hl hF hI hi ti
              obtain ⟨a1, a2⟩ := hi
              dsimp only at a1 a2
              exact ⟨by omega, by show i.toInt < 260; omega⟩
            · refine hv_go C fV_hI [(108, 999)] [] (1, 22) [] [(40, [some (.inr 86, none), none, some (.inl (0, 240), some (2, 0)), some (.inl (1, 239), some (0, 0)), some (.inl (0, 0), none), some (.inl (0, 239), some (1, 0)), some (.inl (11, 11), none), none], [(.inl (0, 239), (1, 5, 0, 0)), (.inr 105, ev_nt)], [], [])] 80 ⟨rfl, rfl⟩ (by decide +kernel) trivial ⟨?_, trivial⟩
              refine hs_ald C (I' := fV f) (b := (f k, f k)) (t := (0, 260, -2147483648, 2147483647)) ?_ rfl rfl ?_ (by decide +kernel) ?_
              · intro ls w i x hw hl hF hI hi ti i0 i1 hx hb
                obtain ⟨u, g1, g2⟩ := tag_l ti
                have g3 := lo_mark (i := 5) (n := 1) (d := 0) hl rfl g1
                rw [hγ1] at g3
                have e2 : i.toInt.toNat = k := by omega
                have e3 : gA w 103 = f := hI
                rw [e3, e2] at hx
                exact ⟨hI, by show f k ≤ x.toInt; omega, by show x.toInt ≤ f k; omega⟩
              · intro ls w i hw hl hF hI hi ti
                obtain ⟨a1, a2⟩ := hi
                dsimp only at a1 a2
                exact ⟨by omega, by show i.toInt < 260; omega⟩
              · refine ev_op_ok C fV_hI (K := []) (rm := (1, 22)) (fun _ h => absurd h List.not_mem_nil) ⟨rfl, rfl⟩ (op := .ldc 249) (len := 2) (by decide +kernel) rfl (fun st hst => ?_)
                rw [List.mem_singleton.mp hst]
                refine hs_rem C (v := f k) (d := 1048576) (by decide) (by decide +kernel) ?_
                have e : (f k).tmod 1048576 = (tg : Int) := by rw [← htg]; exact Int.tmod_eq_emod_of_nonneg h0
                rw [e]
                refine ev_op_ok C fV_hI (K := []) (rm := (1, 22)) (fun _ h => absurd h List.not_mem_nil) ⟨rfl, rfl⟩ (op := .istore 7) (len := 2) (by decide +kernel) rfl (fun st hst => ?_)
                rw [List.mem_singleton.mp hst]
                refine ev_go_gv 3 (tg : Int) rfl ?_
                refine ev_go_mark (i := 7) (n := 3) (q' := (0, 240)) (v := (tg : Int)) rfl ⟨by dsimp only; omega, by dsimp only; omega⟩ rfl ?_
                have k0 : ev_gu 3 (tg : Int) γ 0 = (n : Int) := hγ0
                have k1 : ev_gu 3 (tg : Int) γ 1 = (k : Int) := hγ1
                have k2 : ev_gu 3 (tg : Int) γ 2 = (b : Int) := hγ2
                have k3 : ev_gu 3 (tg : Int) γ 3 = (tg : Int) := rfl
                refine hv_go C fV_hI [(108, 999)] [] (1, 22) [] [(163, [some (.inr 86, none), none, some (.inl (0, 240), some (2, 0)), some (.inl (1, 239), some (0, 0)), some (.inl (0, 0), none), some (.inl (1, 240), some (1, 1)), some (.inl (11, 11), none), some (.inl (0, 240), some (3, 0))], [(.inl (0, 240), (1, 7, 0, 0))], [], []), (16, [some (.inr 86, none), none, some (.inl (0, 240), some (2, 0)), some (.inl (0, 240), some (0, -1)), some (.inl (0, 0), none), some (.inl (0, 240), some (1, 1)), none, none], [], [], [])] 80 (st := (46, [some (.inr 86, none), none, some (.inl (0, 240), some (2, 0)), some (.inl (1, 239), some (0, 0)), some (.inl (0, 0), none), some (.inl (0, 239), some (1, 0)), some (.inl (11, 11), none), some (.inl (0, 240), some (3, 0))], [], [], [])) ⟨rfl, rfl⟩ (by decide +kernel) trivial ⟨?_, ?_, trivial⟩
                · refine ev_go_top (q' := ((tg : Int), (tg : Int))) (t' := ev_nt) (fun ls w y _ hl _ hI hy ty => ⟨?_, ev_tag0⟩) ?_
                  · obtain ⟨u, g1, g2⟩ := tag_l ty
                    have g3 := lo_mark (i := 7) (n := 3) (d := 0) hl rfl g1
                    rw [k3] at g3
                    exact ⟨by show (tg : Int) ≤ y.toInt; omega, by show y.toInt ≤ (tg : Int); omega⟩
                  · refine ev_op_ok C fV_hI (K := []) (rm := (1, 22)) (fun _ h => absurd h List.not_mem_nil) ⟨rfl, rfl⟩ (op := .istore 5) (len := 2) (by decide +kernel) rfl (fun st hst => ?_)
                    rw [List.mem_singleton.mp hst]
                    refine ev_go_gv 1 (tg : Int) rfl ?_
                    refine ev_go_mark (i := 5) (n := 1) (q' := (0, 240)) (v := (tg : Int)) rfl ⟨by dsimp only; omega, by dsimp only; omega⟩ rfl ?_
                    refine hv_go C fV_hI [(108, 999)] [] (1, 22) [] [(16, [some (.inr 86, none), none, some (.inl (0, 240), some (2, 0)), some (.inl (0, 240), some (0, 0)), some (.inl (0, 0), none), some (.inl (0, 240), some (1, 0)), none, none], [], [], [])] 80 (st := (165, [some (.inr 86, none), none, some (.inl (0, 240), some (2, 0)), some (.inl (1, 239), some (0, 0)), some (.inl (0, 0), none), some (.inl (0, 240), some (1, 0)), some (.inl (11, 11), none), some (.inl (0, 240), some (3, 0))], [], [], [])) ⟨rfl, rfl⟩ (by decide +kernel) trivial ⟨?_, trivial⟩
                    refine ev_go_rm (γ' := (fun q => match q with | 0 => ((n : Nat) : Int) | 1 => ((tg : Nat) : Int) | _ => (b : Int))) ⟨by show (b : Int) = ev_gu 3 (tg : Int) γ 2 + 0; omega, by show (n : Int) = ev_gu 3 (tg : Int) γ 0 + 0; omega, by show (tg : Int) = (tg : Int) + 0; omega, trivial⟩ ?_
                    exact nxt n tg _ rfl rfl rfl (by omega) (by omega) (by omega) (fun _ => by omega)
                · refine ev_go_rm (γ' := (fun q => match q with | 0 => ((n - 1 : Nat) : Int) | 1 => ((k + 1 : Nat) : Int) | _ => (b : Int))) ⟨by show (b : Int) = ev_gu 3 (tg : Int) γ 2 + 0; omega, by show ((n - 1 : Nat) : Int) = ev_gu 3 (tg : Int) γ 0 + -1; omega, by show ((k + 1 : Nat) : Int) = ev_gu 3 (tg : Int) γ 1 + 1; omega, trivial⟩ ?_
                  exact nxt (n - 1) (k + 1) _ rfl rfl rfl (by omega) (by omega) (by omega) (fun _ => by omega)
          · refine ev_go_lset (i := 3) (n := 0) (d := 0) (q' := (1, 239)) rfl ⟨by dsimp only; omega, by dsimp only; omega⟩ ?_
            refine hv_go C fV_hI [(108, 999)] [] (1, 22) [] [(28, [some (.inr 86, none), none, some (.inl (0, 240), some (2, 0)), some (.inl (1, 239), some (0, 0)), some (.inl (0, 0), none), some (.inl (0, 239), some (1, 0)), none, none], [(.inl (0, 239), (1, 5, 0, 0)), (.inr 105, ev_nt)], [], [])] 80 ⟨rfl, rfl⟩ (by decide +kernel) trivial ⟨?_, trivial⟩
            refine hs_ald C (I' := fV f) (b := (12582912, 13631487)) (t := (0, 260, -2147483648, 2147483647)) ?_ rfl rfl ?_ (by decide +kernel) ?_
            · intro ls w i x hw hl hF hI hi ti i0 i1 hx hb
              obtain ⟨u, g1, g2⟩ := tag_l ti
              have g3 := lo_mark (i := 5) (n := 1) (d := 0) hl rfl g1
              rw [hγ1] at g3
              have e2 : i.toInt.toNat = k := by omega
              have e3 : gA w 103 = f := hI
              rw [e3, e2] at hx
              exact ⟨hI, by show 12582912 ≤ x.toInt; omega, by show x.toInt ≤ 13631487; omega⟩
            · intro ls w i hw hl hF hI hi ti
              obtain ⟨a1, a2⟩ := hi
              dsimp only at a1 a2
              exact ⟨by omega, by show i.toInt < 260; omega⟩
            · refine hv_go C fV_hI [(108, 999)] [] (1, 22) [] [(40, [some (.inr 86, none), none, some (.inl (0, 240), some (2, 0)), some (.inl (1, 239), some (0, 0)), some (.inl (0, 0), none), some (.inl (0, 239), some (1, 0)), some (.inl (12, 12), none), none], [(.inl (0, 239), (1, 5, 0, 0)), (.inr 105, ev_nt)], [], [])] 80 ⟨rfl, rfl⟩ (by decide +kernel) trivial ⟨?_, trivial⟩
              refine hs_ald C (I' := fV f) (b := (f k, f k)) (t := (0, 260, -2147483648, 2147483647)) ?_ rfl rfl ?_ (by decide +kernel) ?_
              · intro ls w i x hw hl hF hI hi ti i0 i1 hx hb
                obtain ⟨u, g1, g2⟩ := tag_l ti
                have g3 := lo_mark (i := 5) (n := 1) (d := 0) hl rfl g1
                rw [hγ1] at g3
                have e2 : i.toInt.toNat = k := by omega
                have e3 : gA w 103 = f := hI
                rw [e3, e2] at hx
                exact ⟨hI, by show f k ≤ x.toInt; omega, by show x.toInt ≤ f k; omega⟩
              · intro ls w i hw hl hF hI hi ti
                obtain ⟨a1, a2⟩ := hi
                dsimp only at a1 a2
                exact ⟨by omega, by show i.toInt < 260; omega⟩
              · refine ev_op_ok C fV_hI (K := []) (rm := (1, 22)) (fun _ h => absurd h List.not_mem_nil) ⟨rfl, rfl⟩ (op := .ldc 249) (len := 2) (by decide +kernel) rfl (fun st hst => ?_)
                rw [List.mem_singleton.mp hst]
                refine hs_rem C (v := f k) (d := 1048576) (by decide) (by decide +kernel) ?_
                have e : (f k).tmod 1048576 = (tg : Int) := by rw [← htg]; exact Int.tmod_eq_emod_of_nonneg h0
                rw [e]
                refine ev_op_ok C fV_hI (K := []) (rm := (1, 22)) (fun _ h => absurd h List.not_mem_nil) ⟨rfl, rfl⟩ (op := .istore 7) (len := 2) (by decide +kernel) rfl (fun st hst => ?_)
                rw [List.mem_singleton.mp hst]
                refine ev_go_gv 3 (tg : Int) rfl ?_
                refine ev_go_mark (i := 7) (n := 3) (q' := (0, 240)) (v := (tg : Int)) rfl ⟨by dsimp only; omega, by dsimp only; omega⟩ rfl ?_
                have k0 : ev_gu 3 (tg : Int) γ 0 = (n : Int) := hγ0
                have k1 : ev_gu 3 (tg : Int) γ 1 = (k : Int) := hγ1
                have k2 : ev_gu 3 (tg : Int) γ 2 = (b : Int) := hγ2
                have k3 : ev_gu 3 (tg : Int) γ 3 = (tg : Int) := rfl
                refine hv_go C fV_hI [(108, 999)] [] (1, 22) [] [(163, [some (.inr 86, none), none, some (.inl (0, 240), some (2, 0)), some (.inl (1, 239), some (0, 0)), some (.inl (0, 0), none), some (.inl (1, 240), some (1, 1)), some (.inl (12, 12), none), some (.inl (0, 240), some (3, 0))], [(.inl (0, 240), (1, 7, 0, 0))], [], []), (16, [some (.inr 86, none), none, some (.inl (0, 240), some (2, 0)), some (.inl (0, 240), some (0, -1)), some (.inl (0, 0), none), some (.inl (0, 240), some (1, 1)), none, none], [], [], [])] 80 (st := (46, [some (.inr 86, none), none, some (.inl (0, 240), some (2, 0)), some (.inl (1, 239), some (0, 0)), some (.inl (0, 0), none), some (.inl (0, 239), some (1, 0)), some (.inl (12, 12), none), some (.inl (0, 240), some (3, 0))], [], [], [])) ⟨rfl, rfl⟩ (by decide +kernel) trivial ⟨?_, ?_, trivial⟩
                · refine ev_go_top (q' := ((tg : Int), (tg : Int))) (t' := ev_nt) (fun ls w y _ hl _ hI hy ty => ⟨?_, ev_tag0⟩) ?_
                  · obtain ⟨u, g1, g2⟩ := tag_l ty
                    have g3 := lo_mark (i := 7) (n := 3) (d := 0) hl rfl g1
                    rw [k3] at g3
                    exact ⟨by show (tg : Int) ≤ y.toInt; omega, by show y.toInt ≤ (tg : Int); omega⟩
                  · refine ev_op_ok C fV_hI (K := []) (rm := (1, 22)) (fun _ h => absurd h List.not_mem_nil) ⟨rfl, rfl⟩ (op := .istore 5) (len := 2) (by decide +kernel) rfl (fun st hst => ?_)
                    rw [List.mem_singleton.mp hst]
                    refine ev_go_gv 1 (tg : Int) rfl ?_
                    refine ev_go_mark (i := 5) (n := 1) (q' := (0, 240)) (v := (tg : Int)) rfl ⟨by dsimp only; omega, by dsimp only; omega⟩ rfl ?_
                    refine hv_go C fV_hI [(108, 999)] [] (1, 22) [] [(16, [some (.inr 86, none), none, some (.inl (0, 240), some (2, 0)), some (.inl (0, 240), some (0, 0)), some (.inl (0, 0), none), some (.inl (0, 240), some (1, 0)), none, none], [], [], [])] 80 (st := (165, [some (.inr 86, none), none, some (.inl (0, 240), some (2, 0)), some (.inl (1, 239), some (0, 0)), some (.inl (0, 0), none), some (.inl (0, 240), some (1, 0)), some (.inl (12, 12), none), some (.inl (0, 240), some (3, 0))], [], [], [])) ⟨rfl, rfl⟩ (by decide +kernel) trivial ⟨?_, trivial⟩
                    refine ev_go_rm (γ' := (fun q => match q with | 0 => ((n : Nat) : Int) | 1 => ((tg : Nat) : Int) | _ => (b : Int))) ⟨by show (b : Int) = ev_gu 3 (tg : Int) γ 2 + 0; omega, by show (n : Int) = ev_gu 3 (tg : Int) γ 0 + 0; omega, by show (tg : Int) = (tg : Int) + 0; omega, trivial⟩ ?_
                    exact nxt n tg _ rfl rfl rfl (by omega) (by omega) (by omega) (fun _ => by omega)
                · refine ev_go_rm (γ' := (fun q => match q with | 0 => ((n - 1 : Nat) : Int) | 1 => ((k + 1 : Nat) : Int) | _ => (b : Int))) ⟨by show (b : Int) = ev_gu 3 (tg : Int) γ 2 + 0; omega, by show ((n - 1 : Nat) : Int) = ev_gu 3 (tg : Int) γ 0 + -1; omega, by show ((k + 1 : Nat) : Int) = ev_gu 3 (tg : Int) γ 1 + 1; omega, trivial⟩ ?_
                  exact nxt (n - 1) (k + 1) _ rfl rfl rfl (by omega) (by omega) (by omega) (fun _ => by omega)
        · have hx : f k / 1048576 = 2 ∨ f k / 1048576 = 3 ∨ f k / 1048576 = 4 ∨ f k / 1048576 = 5 ∨ f k / 1048576 = 6 ∨ f k / 1048576 = 7 ∨ f k / 1048576 = 8 ∨ f k / 1048576 = 9 := by omega
          rcases hx with hx | hx | hx | hx | hx | hx | hx | hx
          · refine ev_go_lset (i := 3) (n := 0) (d := 0) (q' := (2, 239)) rfl ⟨by dsimp only; omega, by dsimp only; omega⟩ ?_
            refine hv_go C fV_hI [(108, 999)] [] (1, 22) [] [(28, [some (.inr 86, none), none, some (.inl (0, 240), some (2, 0)), some (.inl (2, 239), some (0, 0)), some (.inl (0, 0), none), some (.inl (0, 239), some (1, 0)), none, none], [(.inl (0, 239), (1, 5, 0, 0)), (.inr 105, ev_nt)], [], [])] 80 ⟨rfl, rfl⟩ (by decide +kernel) trivial ⟨?_, trivial⟩
            refine hs_ald C (I' := fV f) (b := (2097152, 3145727)) (t := (0, 260, -2147483648, 2147483647)) ?_ rfl rfl ?_ (by decide +kernel) ?_
            · intro ls w i x hw hl hF hI hi ti i0 i1 hx hb
              obtain ⟨u, g1, g2⟩ := tag_l ti
              have g3 := lo_mark (i := 5) (n := 1) (d := 0) hl rfl g1
              rw [hγ1] at g3
              have e2 : i.toInt.toNat = k := by omega
              have e3 : gA w 103 = f := hI
              rw [e3, e2] at hx
              exact ⟨hI, by show 2097152 ≤ x.toInt; omega, by show x.toInt ≤ 3145727; omega⟩
            · intro ls w i hw hl hF hI hi ti
              obtain ⟨a1, a2⟩ := hi
              dsimp only at a1 a2
              exact ⟨by omega, by show i.toInt < 260; omega⟩
            · refine hv_go C fV_hI [(108, 999)] [] (1, 22) [] [(40, [some (.inr 86, none), none, some (.inl (0, 240), some (2, 0)), some (.inl (2, 239), some (0, 0)), some (.inl (0, 0), none), some (.inl (0, 239), some (1, 0)), some (.inl (2, 2), none), none], [(.inl (0, 239), (1, 5, 0, 0)), (.inr 105, ev_nt)], [], [])] 80 ⟨rfl, rfl⟩ (by decide +kernel) trivial ⟨?_, trivial⟩
              refine hs_ald C (I' := fV f) (b := (2097152, 3145727)) (t := (0, 260, -2147483648, 2147483647)) ?_ rfl rfl ?_ (by decide +kernel) ?_
              · intro ls w i x hw hl hF hI hi ti i0 i1 hx hb
                obtain ⟨u, g1, g2⟩ := tag_l ti
                have g3 := lo_mark (i := 5) (n := 1) (d := 0) hl rfl g1
                rw [hγ1] at g3
                have e2 : i.toInt.toNat = k := by omega
                have e3 : gA w 103 = f := hI
                rw [e3, e2] at hx
                exact ⟨hI, by show 2097152 ≤ x.toInt; omega, by show x.toInt ≤ 3145727; omega⟩
              · intro ls w i hw hl hF hI hi ti
                obtain ⟨a1, a2⟩ := hi
                dsimp only at a1 a2
                exact ⟨by omega, by show i.toInt < 260; omega⟩
              · refine hv_go C fV_hI [(108, 999)] [kq_3005] (1, 22) [] [(16, [some (.inr 86, none), none, some (.inl (0, 240), some (2, 0)), some (.inl (0, 240), some (0, -1)), some (.inl (0, 0), none), some (.inl (0, 240), some (1, 1)), none, none], [], [], [])] 80 ⟨rfl, rfl⟩ (by decide +kernel) ⟨ek_upS fV_hI (fun _ _ => trivial) rfl (qk_3005 l), trivial⟩ ⟨?_, trivial⟩
                refine ev_go_rm (γ' := (fun q => match q with | 0 => ((n - 1 : Nat) : Int) | 1 => ((k + 1 : Nat) : Int) | _ => (b : Int))) ⟨by show (b : Int) = _; omega, by show ((n - 1 : Nat) : Int) = _; omega, by show ((k + 1 : Nat) : Int) = _; omega, trivial⟩ ?_
                exact nxt (n - 1) (k + 1) _ rfl rfl rfl (by omega) (by omega) (by omega) (fun _ => by omega)
          · refine ev_go_lset (i := 3) (n := 0) (d := 0) (q' := (2, 239)) rfl ⟨by dsimp only; omega, by dsimp only; omega⟩ ?_
            refine hv_go C fV_hI [(108, 999)] [] (1, 22) [] [(28, [some (.inr 86, none), none, some (.inl (0, 240), some (2, 0)), some (.inl (2, 239), some (0, 0)), some (.inl (0, 0), none), some (.inl (0, 239), some (1, 0)), none, none], [(.inl (0, 239), (1, 5, 0, 0)), (.inr 105, ev_nt)], [], [])] 80 ⟨rfl, rfl⟩ (by decide +kernel) trivial ⟨?_, trivial⟩
            refine hs_ald C (I' := fV f) (b := (3145728, 4194303)) (t := (0, 260, -2147483648, 2147483647)) ?_ rfl rfl ?_ (by decide +kernel) ?_
            · intro ls w i x hw hl hF hI hi ti i0 i1 hx hb
              obtain ⟨u, g1, g2⟩ := tag_l ti
              have g3 := lo_mark (i := 5) (n := 1) (d := 0) hl rfl g1
              rw [hγ1] at g3
              have e2 : i.toInt.toNat = k := by omega
              have e3 : gA w 103 = f := hI
              rw [e3, e2] at hx
              exact ⟨hI, by show 3145728 ≤ x.toInt; omega, by show x.toInt ≤ 4194303; omega⟩
            · intro ls w i hw hl hF hI hi ti
              obtain ⟨a1, a2⟩ := hi
              dsimp only at a1 a2
              exact ⟨by omega, by show i.toInt < 260; omega⟩
            · refine hv_go C fV_hI [(108, 999)] [] (1, 22) [] [(40, [some (.inr 86, none), none, some (.inl (0, 240), some (2, 0)), some (.inl (2, 239), some (0, 0)), some (.inl (0, 0), none), some (.inl (0, 239), some (1, 0)), some (.inl (3, 3), none), none], [(.inl (0, 239), (1, 5, 0, 0)), (.inr 105, ev_nt)], [], [])] 80 ⟨rfl, rfl⟩ (by decide +kernel) trivial ⟨?_, trivial⟩
              refine hs_ald C (I' := fV f) (b := (3145728, 4194303)) (t := (0, 260, -2147483648, 2147483647)) ?_ rfl rfl ?_ (by decide +kernel) ?_
              · intro ls w i x hw hl hF hI hi ti i0 i1 hx hb
                obtain ⟨u, g1, g2⟩ := tag_l ti
                have g3 := lo_mark (i := 5) (n := 1) (d := 0) hl rfl g1
                rw [hγ1] at g3
                have e2 : i.toInt.toNat = k := by omega
                have e3 : gA w 103 = f := hI
                rw [e3, e2] at hx
                exact ⟨hI, by show 3145728 ≤ x.toInt; omega, by show x.toInt ≤ 4194303; omega⟩
              · intro ls w i hw hl hF hI hi ti
                obtain ⟨a1, a2⟩ := hi
                dsimp only at a1 a2
                exact ⟨by omega, by show i.toInt < 260; omega⟩
              · refine hv_go C fV_hI [(108, 999)] [kq_3006] (1, 22) [] [(16, [some (.inr 86, none), none, some (.inl (0, 240), some (2, 0)), some (.inl (0, 240), some (0, -1)), some (.inl (0, 0), none), some (.inl (0, 240), some (1, 1)), none, none], [], [], [])] 80 ⟨rfl, rfl⟩ (by decide +kernel) ⟨ek_upS fV_hI (fun _ _ => trivial) rfl (qk_3006 l), trivial⟩ ⟨?_, trivial⟩
                refine ev_go_rm (γ' := (fun q => match q with | 0 => ((n - 1 : Nat) : Int) | 1 => ((k + 1 : Nat) : Int) | _ => (b : Int))) ⟨by show (b : Int) = _; omega, by show ((n - 1 : Nat) : Int) = _; omega, by show ((k + 1 : Nat) : Int) = _; omega, trivial⟩ ?_
                exact nxt (n - 1) (k + 1) _ rfl rfl rfl (by omega) (by omega) (by omega) (fun _ => by omega)
          · refine ev_go_lset (i := 3) (n := 0) (d := 0) (q' := (2, 239)) rfl ⟨by dsimp only; omega, by dsimp only; omega⟩ ?_
            refine hv_go C fV_hI [(108, 999)] [] (1, 22) [] [(28, [some (.inr 86, none), none, some (.inl (0, 240), some (2, 0)), some (.inl (2, 239), some (0, 0)), some (.inl (0, 0), none), some (.inl (0, 239), some (1, 0)), none, none], [(.inl (0, 239), (1, 5, 0, 0)), (.inr 105, ev_nt)], [], [])] 80 ⟨rfl, rfl⟩ (by decide +kernel) trivial ⟨?_, trivial⟩
            refine hs_ald C (I' := fV f) (b := (4194304, 5242879)) (t := (0, 260, -2147483648, 2147483647)) ?_ rfl rfl ?_ (by decide +kernel) ?_
            · intro ls w i x hw hl hF hI hi ti i0 i1 hx hb
              obtain ⟨u, g1, g2⟩ := tag_l ti
              have g3 := lo_mark (i := 5) (n := 1) (d := 0) hl rfl g1
              rw [hγ1] at g3
              have e2 : i.toInt.toNat = k := by omega
              have e3 : gA w 103 = f := hI
              rw [e3, e2] at hx
              exact ⟨hI, by show 4194304 ≤ x.toInt; omega, by show x.toInt ≤ 5242879; omega⟩
            · intro ls w i hw hl hF hI hi ti
              obtain ⟨a1, a2⟩ := hi
              dsimp only at a1 a2
              exact ⟨by omega, by show i.toInt < 260; omega⟩
            · refine hv_go C fV_hI [(108, 999)] [] (1, 22) [] [(40, [some (.inr 86, none), none, some (.inl (0, 240), some (2, 0)), some (.inl (2, 239), some (0, 0)), some (.inl (0, 0), none), some (.inl (0, 239), some (1, 0)), some (.inl (4, 4), none), none], [(.inl (0, 239), (1, 5, 0, 0)), (.inr 105, ev_nt)], [], [])] 80 ⟨rfl, rfl⟩ (by decide +kernel) trivial ⟨?_, trivial⟩
              refine hs_ald C (I' := fV f) (b := (4194304, 5242879)) (t := (0, 260, -2147483648, 2147483647)) ?_ rfl rfl ?_ (by decide +kernel) ?_
              · intro ls w i x hw hl hF hI hi ti i0 i1 hx hb
                obtain ⟨u, g1, g2⟩ := tag_l ti
                have g3 := lo_mark (i := 5) (n := 1) (d := 0) hl rfl g1
                rw [hγ1] at g3
                have e2 : i.toInt.toNat = k := by omega
                have e3 : gA w 103 = f := hI
                rw [e3, e2] at hx
                exact ⟨hI, by show 4194304 ≤ x.toInt; omega, by show x.toInt ≤ 5242879; omega⟩
              · intro ls w i hw hl hF hI hi ti
                obtain ⟨a1, a2⟩ := hi
                dsimp only at a1 a2
                exact ⟨by omega, by show i.toInt < 260; omega⟩
              · refine hv_go C fV_hI [(108, 999)] [kq_3007] (1, 22) [] [(16, [some (.inr 86, none), none, some (.inl (0, 240), some (2, 0)), some (.inl (0, 240), some (0, -1)), some (.inl (0, 0), none), some (.inl (0, 240), some (1, 1)), none, none], [], [], [])] 80 ⟨rfl, rfl⟩ (by decide +kernel) ⟨ek_upS fV_hI (fun _ _ => trivial) rfl (qk_3007 l), trivial⟩ ⟨?_, trivial⟩
                refine ev_go_rm (γ' := (fun q => match q with | 0 => ((n - 1 : Nat) : Int) | 1 => ((k + 1 : Nat) : Int) | _ => (b : Int))) ⟨by show (b : Int) = _; omega, by show ((n - 1 : Nat) : Int) = _; omega, by show ((k + 1 : Nat) : Int) = _; omega, trivial⟩ ?_
                exact nxt (n - 1) (k + 1) _ rfl rfl rfl (by omega) (by omega) (by omega) (fun _ => by omega)
          · refine ev_go_lset (i := 3) (n := 0) (d := 0) (q' := (2, 239)) rfl ⟨by dsimp only; omega, by dsimp only; omega⟩ ?_
            refine hv_go C fV_hI [(108, 999)] [] (1, 22) [] [(28, [some (.inr 86, none), none, some (.inl (0, 240), some (2, 0)), some (.inl (2, 239), some (0, 0)), some (.inl (0, 0), none), some (.inl (0, 239), some (1, 0)), none, none], [(.inl (0, 239), (1, 5, 0, 0)), (.inr 105, ev_nt)], [], [])] 80 ⟨rfl, rfl⟩ (by decide +kernel) trivial ⟨?_, trivial⟩
            refine hs_ald C (I' := fV f) (b := (5242880, 6291455)) (t := (0, 260, -2147483648, 2147483647)) ?_ rfl rfl ?_ (by decide +kernel) ?_
            · intro ls w i x hw hl hF hI hi ti i0 i1 hx hb
              obtain ⟨u, g1, g2⟩ := tag_l ti
              have g3 := lo_mark (i := 5) (n := 1) (d := 0) hl rfl g1
              rw [hγ1] at g3
              have e2 : i.toInt.toNat = k := by omega
              have e3 : gA w 103 = f := hI
              rw [e3, e2] at hx
              exact ⟨hI, by show 5242880 ≤ x.toInt; omega, by show x.toInt ≤ 6291455; omega⟩
            · intro ls w i hw hl hF hI hi ti
              obtain ⟨a1, a2⟩ := hi
              dsimp only at a1 a2
              exact ⟨by omega, by show i.toInt < 260; omega⟩
            · refine hv_go C fV_hI [(108, 999)] [] (1, 22) [] [(40, [some (.inr 86, none), none, some (.inl (0, 240), some (2, 0)), some (.inl (2, 239), some (0, 0)), some (.inl (0, 0), none), some (.inl (0, 239), some (1, 0)), some (.inl (5, 5), none), none], [(.inl (0, 239), (1, 5, 0, 0)), (.inr 105, ev_nt)], [], [])] 80 ⟨rfl, rfl⟩ (by decide +kernel) trivial ⟨?_, trivial⟩
              refine hs_ald C (I' := fV f) (b := (5242880, 6291455)) (t := (0, 260, -2147483648, 2147483647)) ?_ rfl rfl ?_ (by decide +kernel) ?_
              · intro ls w i x hw hl hF hI hi ti i0 i1 hx hb
                obtain ⟨u, g1, g2⟩ := tag_l ti
                have g3 := lo_mark (i := 5) (n := 1) (d := 0) hl rfl g1
                rw [hγ1] at g3
                have e2 : i.toInt.toNat = k := by omega
                have e3 : gA w 103 = f := hI
                rw [e3, e2] at hx
                exact ⟨hI, by show 5242880 ≤ x.toInt; omega, by show x.toInt ≤ 6291455; omega⟩
              · intro ls w i hw hl hF hI hi ti
                obtain ⟨a1, a2⟩ := hi
                dsimp only at a1 a2
                exact ⟨by omega, by show i.toInt < 260; omega⟩
              · refine hv_go C fV_hI [(108, 999)] [kq_3011, kq_3012] (1, 22) [] [(202, [none, none, none, none, none, none, none, none], [(.inl (0, 0), ev_nt)], [], []), (16, [some (.inr 86, none), none, some (.inl (0, 240), some (2, 0)), some (.inl (0, 240), some (0, -1)), some (.inl (0, 0), none), some (.inl (0, 240), some (1, 1)), none, none], [], [], [])] 80 ⟨rfl, rfl⟩ (by decide +kernel) ⟨ek_upS fV_hI (fun _ _ => trivial) rfl (qk_3011 l), ek_upS fV_hI (fun _ _ => trivial) rfl (qk_3012 l), trivial⟩ ⟨?_, ?_, trivial⟩
                · exact hs_iret C (i := 0) (fun ls w x _ _ _ hI hx _ => hI) hret rfl rfl rfl (by decide) rfl rfl rfl (by decide +kernel)
                · refine ev_go_rm (γ' := (fun q => match q with | 0 => ((n - 1 : Nat) : Int) | 1 => ((k + 1 : Nat) : Int) | _ => (b : Int))) ⟨by show (b : Int) = _; omega, by show ((n - 1 : Nat) : Int) = _; omega, by show ((k + 1 : Nat) : Int) = _; omega, trivial⟩ ?_
                  exact nxt (n - 1) (k + 1) _ rfl rfl rfl (by omega) (by omega) (by omega) (fun _ => by omega)
          · refine ev_go_lset (i := 3) (n := 0) (d := 0) (q' := (2, 239)) rfl ⟨by dsimp only; omega, by dsimp only; omega⟩ ?_
            refine hv_go C fV_hI [(108, 999)] [] (1, 22) [] [(28, [some (.inr 86, none), none, some (.inl (0, 240), some (2, 0)), some (.inl (2, 239), some (0, 0)), some (.inl (0, 0), none), some (.inl (0, 239), some (1, 0)), none, none], [(.inl (0, 239), (1, 5, 0, 0)), (.inr 105, ev_nt)], [], [])] 80 ⟨rfl, rfl⟩ (by decide +kernel) trivial ⟨?_, trivial⟩
            refine hs_ald C (I' := fV f) (b := (6291456, 7340031)) (t := (0, 260, -2147483648, 2147483647)) ?_ rfl rfl ?_ (by decide +kernel) ?_
            · intro ls w i x hw hl hF hI hi ti i0 i1 hx hb
              obtain ⟨u, g1, g2⟩ := tag_l ti
              have g3 := lo_mark (i := 5) (n := 1) (d := 0) hl rfl g1
              rw [hγ1] at g3
              have e2 : i.toInt.toNat = k := by omega
              have e3 : gA w 103 = f := hI
              rw [e3, e2] at hx
              exact ⟨hI, by show 6291456 ≤ x.toInt; omega, by show x.toInt ≤ 7340031; omega⟩
            · intro ls w i hw hl hF hI hi ti
              obtain ⟨a1, a2⟩ := hi
              dsimp only at a1 a2
              exact ⟨by omega, by show i.toInt < 260; omega⟩
            · refine hv_go C fV_hI [(108, 999)] [] (1, 22) [] [(40, [some (.inr 86, none), none, some (.inl (0, 240), some (2, 0)), some (.inl (2, 239), some (0, 0)), some (.inl (0, 0), none), some (.inl (0, 239), some (1, 0)), some (.inl (6, 6), none), none], [(.inl (0, 239), (1, 5, 0, 0)), (.inr 105, ev_nt)], [], [])] 80 ⟨rfl, rfl⟩ (by decide +kernel) trivial ⟨?_, trivial⟩
              refine hs_ald C (I' := fV f) (b := (6291456, 7340031)) (t := (0, 260, -2147483648, 2147483647)) ?_ rfl rfl ?_ (by decide +kernel) ?_
              · intro ls w i x hw hl hF hI hi ti i0 i1 hx hb
                obtain ⟨u, g1, g2⟩ := tag_l ti
                have g3 := lo_mark (i := 5) (n := 1) (d := 0) hl rfl g1
                rw [hγ1] at g3
                have e2 : i.toInt.toNat = k := by omega
                have e3 : gA w 103 = f := hI
                rw [e3, e2] at hx
                exact ⟨hI, by show 6291456 ≤ x.toInt; omega, by show x.toInt ≤ 7340031; omega⟩
              · intro ls w i hw hl hF hI hi ti
                obtain ⟨a1, a2⟩ := hi
                dsimp only at a1 a2
                exact ⟨by omega, by show i.toInt < 260; omega⟩
              · refine hv_go C fV_hI [(108, 999)] [kq_3013, kq_3014] (1, 22) [] [(202, [none, none, none, none, none, none, none, none], [(.inl (0, 0), ev_nt)], [], []), (16, [some (.inr 86, none), none, some (.inl (0, 240), some (2, 0)), some (.inl (0, 240), some (0, -1)), some (.inl (0, 0), none), some (.inl (0, 240), some (1, 1)), none, none], [], [], [])] 80 ⟨rfl, rfl⟩ (by decide +kernel) ⟨ek_upS fV_hI (fun _ _ => trivial) rfl (qk_3013 l), ek_upS fV_hI (fun _ _ => trivial) rfl (qk_3014 l), trivial⟩ ⟨?_, ?_, trivial⟩
                · exact hs_iret C (i := 0) (fun ls w x _ _ _ hI hx _ => hI) hret rfl rfl rfl (by decide) rfl rfl rfl (by decide +kernel)
                · refine ev_go_rm (γ' := (fun q => match q with | 0 => ((n - 1 : Nat) : Int) | 1 => ((k + 1 : Nat) : Int) | _ => (b : Int))) ⟨by show (b : Int) = _; omega, by show ((n - 1 : Nat) : Int) = _; omega, by show ((k + 1 : Nat) : Int) = _; omega, trivial⟩ ?_
                  exact nxt (n - 1) (k + 1) _ rfl rfl rfl (by omega) (by omega) (by omega) (fun _ => by omega)
          · refine ev_go_lset (i := 3) (n := 0) (d := 0) (q' := (2, 239)) rfl ⟨by dsimp only; omega, by dsimp only; omega⟩ ?_
            refine hv_go C fV_hI [(108, 999)] [] (1, 22) [] [(28, [some (.inr 86, none), none, some (.inl (0, 240), some (2, 0)), some (.inl (2, 239), some (0, 0)), some (.inl (0, 0), none), some (.inl (0, 239), some (1, 0)), none, none], [(.inl (0, 239), (1, 5, 0, 0)), (.inr 105, ev_nt)], [], [])] 80 ⟨rfl, rfl⟩ (by decide +kernel) trivial ⟨?_, trivial⟩
            refine hs_ald C (I' := fV f) (b := (7340032, 8388607)) (t := (0, 260, -2147483648, 2147483647)) ?_ rfl rfl ?_ (by decide +kernel) ?_
            · intro ls w i x hw hl hF hI hi ti i0 i1 hx hb
              obtain ⟨u, g1, g2⟩ := tag_l ti
              have g3 := lo_mark (i := 5) (n := 1) (d := 0) hl rfl g1
              rw [hγ1] at g3
              have e2 : i.toInt.toNat = k := by omega
              have e3 : gA w 103 = f := hI
              rw [e3, e2] at hx
              exact ⟨hI, by show 7340032 ≤ x.toInt; omega, by show x.toInt ≤ 8388607; omega⟩
            · intro ls w i hw hl hF hI hi ti
              obtain ⟨a1, a2⟩ := hi
              dsimp only at a1 a2
              exact ⟨by omega, by show i.toInt < 260; omega⟩
            · refine hv_go C fV_hI [(108, 999)] [] (1, 22) [] [(40, [some (.inr 86, none), none, some (.inl (0, 240), some (2, 0)), some (.inl (2, 239), some (0, 0)), some (.inl (0, 0), none), some (.inl (0, 239), some (1, 0)), some (.inl (7, 7), none), none], [(.inl (0, 239), (1, 5, 0, 0)), (.inr 105, ev_nt)], [], [])] 80 ⟨rfl, rfl⟩ (by decide +kernel) trivial ⟨?_, trivial⟩
              refine hs_ald C (I' := fV f) (b := (7340032, 8388607)) (t := (0, 260, -2147483648, 2147483647)) ?_ rfl rfl ?_ (by decide +kernel) ?_
              · intro ls w i x hw hl hF hI hi ti i0 i1 hx hb
                obtain ⟨u, g1, g2⟩ := tag_l ti
                have g3 := lo_mark (i := 5) (n := 1) (d := 0) hl rfl g1
                rw [hγ1] at g3
                have e2 : i.toInt.toNat = k := by omega
                have e3 : gA w 103 = f := hI
                rw [e3, e2] at hx
                exact ⟨hI, by show 7340032 ≤ x.toInt; omega, by show x.toInt ≤ 8388607; omega⟩
              · intro ls w i hw hl hF hI hi ti
                obtain ⟨a1, a2⟩ := hi
                dsimp only at a1 a2
                exact ⟨by omega, by show i.toInt < 260; omega⟩
              · refine hv_go C fV_hI [(108, 999)] [kq_3008] (1, 22) [] [(16, [some (.inr 86, none), none, some (.inl (0, 240), some (2, 0)), some (.inl (0, 240), some (0, -1)), some (.inl (0, 0), none), some (.inl (0, 240), some (1, 1)), none, none], [], [], [])] 80 ⟨rfl, rfl⟩ (by decide +kernel) ⟨ek_upS fV_hI (fun _ _ => trivial) rfl (qk_3008 l), trivial⟩ ⟨?_, trivial⟩
                refine ev_go_rm (γ' := (fun q => match q with | 0 => ((n - 1 : Nat) : Int) | 1 => ((k + 1 : Nat) : Int) | _ => (b : Int))) ⟨by show (b : Int) = _; omega, by show ((n - 1 : Nat) : Int) = _; omega, by show ((k + 1 : Nat) : Int) = _; omega, trivial⟩ ?_
                exact nxt (n - 1) (k + 1) _ rfl rfl rfl (by omega) (by omega) (by omega) (fun _ => by omega)
          · refine ev_go_lset (i := 3) (n := 0) (d := 0) (q' := (2, 239)) rfl ⟨by dsimp only; omega, by dsimp only; omega⟩ ?_
            refine hv_go C fV_hI [(108, 999)] [] (1, 22) [] [(28, [some (.inr 86, none), none, some (.inl (0, 240), some (2, 0)), some (.inl (2, 239), some (0, 0)), some (.inl (0, 0), none), some (.inl (0, 239), some (1, 0)), none, none], [(.inl (0, 239), (1, 5, 0, 0)), (.inr 105, ev_nt)], [], [])] 80 ⟨rfl, rfl⟩ (by decide +kernel) trivial ⟨?_, trivial⟩
            refine hs_ald C (I' := fV f) (b := (8388608, 9437183)) (t := (0, 260, -2147483648, 2147483647)) ?_ rfl rfl ?_ (by decide +kernel) ?_
            · intro ls w i x hw hl hF hI hi ti i0 i1 hx hb
              obtain ⟨u, g1, g2⟩ := tag_l ti
              have g3 := lo_mark (i := 5) (n := 1) (d := 0) hl rfl g1
              rw [hγ1] at g3
              have e2 : i.toInt.toNat = k := by omega
              have e3 : gA w 103 = f := hI
              rw [e3, e2] at hx
              exact ⟨hI, by show 8388608 ≤ x.toInt; omega, by show x.toInt ≤ 9437183; omega⟩
            · intro ls w i hw hl hF hI hi ti
              obtain ⟨a1, a2⟩ := hi
              dsimp only at a1 a2
              exact ⟨by omega, by show i.toInt < 260; omega⟩
            · refine hv_go C fV_hI [(108, 999)] [] (1, 22) [] [(40, [some (.inr 86, none), none, some (.inl (0, 240), some (2, 0)), some (.inl (2, 239), some (0, 0)), some (.inl (0, 0), none), some (.inl (0, 239), some (1, 0)), some (.inl (8, 8), none), none], [(.inl (0, 239), (1, 5, 0, 0)), (.inr 105, ev_nt)], [], [])] 80 ⟨rfl, rfl⟩ (by decide +kernel) trivial ⟨?_, trivial⟩
              refine hs_ald C (I' := fV f) (b := (8388608, 9437183)) (t := (0, 260, -2147483648, 2147483647)) ?_ rfl rfl ?_ (by decide +kernel) ?_
              · intro ls w i x hw hl hF hI hi ti i0 i1 hx hb
                obtain ⟨u, g1, g2⟩ := tag_l ti
                have g3 := lo_mark (i := 5) (n := 1) (d := 0) hl rfl g1
                rw [hγ1] at g3
                have e2 : i.toInt.toNat = k := by omega
                have e3 : gA w 103 = f := hI
                rw [e3, e2] at hx
                exact ⟨hI, by show 8388608 ≤ x.toInt; omega, by show x.toInt ≤ 9437183; omega⟩
              · intro ls w i hw hl hF hI hi ti
                obtain ⟨a1, a2⟩ := hi
                dsimp only at a1 a2
                exact ⟨by omega, by show i.toInt < 260; omega⟩
              · refine hv_go C fV_hI [(108, 999)] [kq_3009] (1, 22) [] [(16, [some (.inr 86, none), none, some (.inl (0, 240), some (2, 0)), some (.inl (0, 240), some (0, -1)), some (.inl (0, 0), none), some (.inl (0, 240), some (1, 1)), none, none], [], [], [])] 80 ⟨rfl, rfl⟩ (by decide +kernel) ⟨ek_upS fV_hI (fun _ _ => trivial) rfl (qk_3009 l), trivial⟩ ⟨?_, trivial⟩
                refine ev_go_rm (γ' := (fun q => match q with | 0 => ((n - 1 : Nat) : Int) | 1 => ((k + 1 : Nat) : Int) | _ => (b : Int))) ⟨by show (b : Int) = _; omega, by show ((n - 1 : Nat) : Int) = _; omega, by show ((k + 1 : Nat) : Int) = _; omega, trivial⟩ ?_
                exact nxt (n - 1) (k + 1) _ rfl rfl rfl (by omega) (by omega) (by omega) (fun _ => by omega)
          · refine ev_go_lset (i := 3) (n := 0) (d := 0) (q' := (2, 239)) rfl ⟨by dsimp only; omega, by dsimp only; omega⟩ ?_
            refine hv_go C fV_hI [(108, 999)] [] (1, 22) [] [(28, [some (.inr 86, none), none, some (.inl (0, 240), some (2, 0)), some (.inl (2, 239), some (0, 0)), some (.inl (0, 0), none), some (.inl (0, 239), some (1, 0)), none, none], [(.inl (0, 239), (1, 5, 0, 0)), (.inr 105, ev_nt)], [], [])] 80 ⟨rfl, rfl⟩ (by decide +kernel) trivial ⟨?_, trivial⟩
            refine hs_ald C (I' := fV f) (b := (9437184, 10485759)) (t := (0, 260, -2147483648, 2147483647)) ?_ rfl rfl ?_ (by decide +kernel) ?_
            · intro ls w i x hw hl hF hI hi ti i0 i1 hx hb
              obtain ⟨u, g1, g2⟩ := tag_l ti
              have g3 := lo_mark (i := 5) (n := 1) (d := 0) hl rfl g1
              rw [hγ1] at g3
              have e2 : i.toInt.toNat = k := by omega
              have e3 : gA w 103 = f := hI
              rw [e3, e2] at hx
              exact ⟨hI, by show 9437184 ≤ x.toInt; omega, by show x.toInt ≤ 10485759; omega⟩
            · intro ls w i hw hl hF hI hi ti
              obtain ⟨a1, a2⟩ := hi
              dsimp only at a1 a2
              exact ⟨by omega, by show i.toInt < 260; omega⟩
            · refine hv_go C fV_hI [(108, 999)] [] (1, 22) [] [(40, [some (.inr 86, none), none, some (.inl (0, 240), some (2, 0)), some (.inl (2, 239), some (0, 0)), some (.inl (0, 0), none), some (.inl (0, 239), some (1, 0)), some (.inl (9, 9), none), none], [(.inl (0, 239), (1, 5, 0, 0)), (.inr 105, ev_nt)], [], [])] 80 ⟨rfl, rfl⟩ (by decide +kernel) trivial ⟨?_, trivial⟩
              refine hs_ald C (I' := fV f) (b := (9437184, 10485759)) (t := (0, 260, -2147483648, 2147483647)) ?_ rfl rfl ?_ (by decide +kernel) ?_
              · intro ls w i x hw hl hF hI hi ti i0 i1 hx hb
                obtain ⟨u, g1, g2⟩ := tag_l ti
                have g3 := lo_mark (i := 5) (n := 1) (d := 0) hl rfl g1
                rw [hγ1] at g3
                have e2 : i.toInt.toNat = k := by omega
                have e3 : gA w 103 = f := hI
                rw [e3, e2] at hx
                exact ⟨hI, by show 9437184 ≤ x.toInt; omega, by show x.toInt ≤ 10485759; omega⟩
              · intro ls w i hw hl hF hI hi ti
                obtain ⟨a1, a2⟩ := hi
                dsimp only at a1 a2
                exact ⟨by omega, by show i.toInt < 260; omega⟩
              · refine hv_go C fV_hI [(108, 999)] [kq_3010] (1, 22) [] [(16, [some (.inr 86, none), none, some (.inl (0, 240), some (2, 0)), some (.inl (0, 240), some (0, -1)), some (.inl (0, 0), none), some (.inl (0, 240), some (1, 1)), none, none], [], [], [])] 80 ⟨rfl, rfl⟩ (by decide +kernel) ⟨ek_upS fV_hI (fun _ _ => trivial) rfl (qk_3010 l), trivial⟩ ⟨?_, trivial⟩
                refine ev_go_rm (γ' := (fun q => match q with | 0 => ((n - 1 : Nat) : Int) | 1 => ((k + 1 : Nat) : Int) | _ => (b : Int))) ⟨by show (b : Int) = _; omega, by show ((n - 1 : Nat) : Int) = _; omega, by show ((k + 1 : Nat) : Int) = _; omega, trivial⟩ ?_
                exact nxt (n - 1) (k + 1) _ rfl rfl rfl (by omega) (by omega) (by omega) (fun _ => by omega)
  refine ev_go_gam (γ' := fun q => match q with
    | 1 => (a : Int)
    | _ => (b : Int)) rfl ?_
  refine ev_go_mark (i := 1) (n := 1) (q' := (0, 240)) (v := (a : Int)) rfl ⟨by dsimp only; omega, by dsimp only; omega⟩ rfl ?_
  refine ev_go_mark (i := 2) (n := 2) (q' := (0, 240)) (v := (b : Int)) rfl ⟨by dsimp only; omega, by dsimp only; omega⟩ rfl ?_
  refine hv_go C fV_hI [(108, 999)] [] (1, 22) [] [(2, [some (.inr 86, none), some (.inl (0, 240), some (1, 0)), some (.inl (0, 240), some (2, 0)), some (.inl (0, 0), none), none, none, none, none], [], [], [])] 80 (st := (0, [some (.inr 86, none), some (.inl (0, 240), some (1, 0)), some (.inl (0, 240), some (2, 0)), none, none, none, none, none], [], [], [])) ⟨rfl, rfl⟩ (by decide +kernel) trivial ⟨?_, trivial⟩
  refine ev_go_gv 0 0 rfl ?_
  refine ev_go_mark (i := 3) (n := 0) (q' := (0, 240)) (v := 0) rfl (by decide) rfl ?_
  refine hv_go C fV_hI [(108, 999)] [] (1, 22) [] [(14, [some (.inr 86, none), some (.inl (0, 240), some (1, 0)), some (.inl (0, 240), some (2, 0)), some (.inl (0, 240), some (0, 0)), some (.inl (0, 0), none), none, none, none], [(.inl (0, 240), (1, 1, 0, 0))], [], [])] 80 (st := (2, [some (.inr 86, none), some (.inl (0, 240), some (1, 0)), some (.inl (0, 240), some (2, 0)), some (.inl (0, 240), some (0, 0)), none, none, none, none], [], [], [])) ⟨rfl, rfl⟩ (by decide +kernel) trivial ⟨?_, trivial⟩
  refine ev_go_top (q' := ((a : Int), (a : Int))) (t' := ev_nt) (fun ls w y _ hl _ hI hy ty => ⟨?_, ev_tag0⟩) ?_
  · obtain ⟨u, g1, g2⟩ := tag_l ty
    have g3 : u.toInt = (a : Int) + 0 := lo_mark (i := 1) (n := 1) (d := 0) hl rfl g1
    exact ⟨by show (a : Int) ≤ y.toInt; omega, by show y.toInt ≤ (a : Int); omega⟩
  · refine ev_op_ok C fV_hI (K := []) (rm := (1, 22)) (fun _ h => absurd h List.not_mem_nil) ⟨rfl, rfl⟩ (op := .istore 5) (len := 2) (by decide +kernel) rfl (fun st hst => ?_)
    rw [List.mem_singleton.mp hst]
    refine ev_go_drop 1 ?_
    refine ev_go_gv 1 (a : Int) rfl ?_
    refine ev_go_mark (i := 5) (n := 1) (q' := (0, 240)) (v := (a : Int)) rfl ⟨by dsimp only; omega, by dsimp only; omega⟩ rfl ?_
    exact loop _ 0 a _ rfl rfl rfl rfl (Nat.le_refl _) (by omega) (Nat.zero_le _) (fun _ => by rw [hD0]; decide)
