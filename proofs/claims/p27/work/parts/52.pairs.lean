theorem lk_register : lf_ck 0 13 2 10 0 = true ∧ lf_ck 84 17 2 136 1 = true := ⟨by decide +kernel, by decide +kernel⟩
theorem lt_register {N : Nat} (hN : N ≤ 100000) (x1 x2 : Int32) (σ : pS) (hJ : WR N σ σ) : ∃ v σ1 w τ1, f_X_register_0 x1.toInt x2.toInt σ = some (v, σ1) ∧ f_M_register_84 x1.toInt x2.toInt σ1 = some (w, τ1) ∧ WR (N + 1) τ1 τ1 ∧ (false = true → v = w) := by
  have r1 := fb_rng x1
  have r2 := fb_rng x2
  exact lw_two (F := f_X_register_0 x1.toInt x2.toInt) (G := f_M_register_84 x1.toInt x2.toInt) (cmp := false) (fun σ τ h => by obtain ⟨v, σ1, τ1, q1, q2, q3⟩ := w_register x1.toInt x2.toInt h; exact ⟨v, v, σ1, τ1, q1, q2, q3, fun _ => rfl⟩) hJ
theorem lk_poke : lf_ck 0 18 2 11 0 = true ∧ lf_ck 84 21 2 138 1 = true := ⟨by decide +kernel, by decide +kernel⟩
theorem lt_poke {N : Nat} (hN : N ≤ 100000) (x1 x2 : Int32) (σ : pS) (hJ : WR N σ σ) : ∃ v σ1 w τ1, f_X_poke_0 x1.toInt x2.toInt σ = some (v, σ1) ∧ f_M_poke_84 x1.toInt x2.toInt σ1 = some (w, τ1) ∧ WR (N + 1) τ1 τ1 ∧ (false = true → v = w) := by
  have r1 := fb_rng x1
  have r2 := fb_rng x2
  exact lw_two (F := f_X_poke_0 x1.toInt x2.toInt) (G := f_M_poke_84 x1.toInt x2.toInt) (cmp := false) (fun σ τ h => by obtain ⟨v, σ1, τ1, q1, q2, q3⟩ := w_poke x1.toInt x2.toInt h; exact ⟨v, v, σ1, τ1, q1, q2, q3, fun _ => rfl⟩) hJ
theorem lk_feed : lf_ck 0 22 5 12 1 = true ∧ lf_ck 84 26 5 139 1 = true := ⟨by decide +kernel, by decide +kernel⟩
theorem lt_feed {N : Nat} (hN : N ≤ 100000) (x1 x2 x3 x4 x5 : Int32) (σ : pS) (hJ : WR N σ σ) : ∃ v σ1 w τ1, f_X_feed_0 x1.toInt x2.toInt x3.toInt x4.toInt x5.toInt σ = some (v, σ1) ∧ f_M_feed_84 x1.toInt x2.toInt x3.toInt x4.toInt x5.toInt σ1 = some (w, τ1) ∧ WR (N + 1) τ1 τ1 ∧ (false = true → v = w) := by
  have r1 := fb_rng x1
  have r2 := fb_rng x2
  have r3 := fb_rng x3
  have r4 := fb_rng x4
  have r5 := fb_rng x5
  exact lw_two (F := f_X_feed_0 x1.toInt x2.toInt x3.toInt x4.toInt x5.toInt) (G := f_M_feed_84 x1.toInt x2.toInt x3.toInt x4.toInt x5.toInt) (cmp := false) (fun σ τ h => by obtain ⟨v, σ1, τ1, q1, q2, q3⟩ := w_feed x1.toInt x2.toInt x3.toInt x4.toInt x5.toInt h; exact ⟨v, v, σ1, τ1, q1, q2, q3, fun _ => rfl⟩) hJ
theorem lk_law : lf_ck 0 27 1 14 88 = true ∧ lf_ck 84 31 1 141 8 = true := ⟨by decide +kernel, by decide +kernel⟩
theorem lt_law {N : Nat} (hN : N ≤ 100000) (x1 : Int32) (σ : pS) (hJ : WR N σ σ) : ∃ v σ1 w τ1, f_X_law_0 x1.toInt σ = some (v, σ1) ∧ f_M_law_84 x1.toInt σ1 = some (w, τ1) ∧ WR (N + 1) τ1 τ1 ∧ (false = true → v = w) := by
  have r1 := fb_rng x1
  exact lw_two (F := f_X_law_0 x1.toInt) (G := f_M_law_84 x1.toInt) (cmp := false) (fun σ τ h => by obtain ⟨v, σ1, τ1, q1, q2, q3⟩ := w_law x1.toInt h; exact ⟨v, v, σ1, τ1, q1, q2, q3, fun _ => rfl⟩) hJ
theorem lk_program : lf_ck 0 32 1 40 7 = true ∧ lf_ck 84 35 1 163 5 = true := ⟨by decide +kernel, by decide +kernel⟩
theorem lt_program {N : Nat} (hN : N ≤ 100000) (x1 : Int32) (σ : pS) (hJ : WR N σ σ) : ∃ v σ1 w τ1, f_X_program_0 x1.toInt σ = some (v, σ1) ∧ f_M_program_84 x1.toInt σ1 = some (w, τ1) ∧ WR (N + 1) τ1 τ1 ∧ (false = true → v = w) := by
  have r1 := fb_rng x1
  exact lw_two (F := f_X_program_0 x1.toInt) (G := f_M_program_84 x1.toInt) (cmp := false) (fun σ τ h => by obtain ⟨v, σ1, τ1, q1, q2, q3⟩ := w_program x1.toInt hN h; exact ⟨v, v, σ1, τ1, q1, q2, q3, fun _ => rfl⟩) hJ
theorem lk_run : lf_ck 0 36 1 57 6 = true ∧ lf_ck 84 39 1 175 9 = true := ⟨by decide +kernel, by decide +kernel⟩
theorem lt_run {N : Nat} (hN : N ≤ 100000) (x1 : Int32) (σ : pS) (hJ : WR N σ σ) : ∃ v σ1 w τ1, f_X_run_0 x1.toInt σ = some (v, σ1) ∧ f_M_run_84 x1.toInt σ1 = some (w, τ1) ∧ WR (N + 1) τ1 τ1 ∧ (false = true → v = w) := by
  have r1 := fb_rng x1
  exact lw_two (F := f_X_run_0 x1.toInt) (G := f_M_run_84 x1.toInt) (cmp := false) (fun σ τ h => by obtain ⟨v, σ1, τ1, q1, q2, q3⟩ := w_run x1.toInt h; exact ⟨v, v, σ1, τ1, q1, q2, q3, fun _ => rfl⟩) hJ
theorem lk_tried : lf_ck 0 40 2 99 6 = true ∧ lf_ck 84 44 2 212 10 = true := ⟨by decide +kernel, by decide +kernel⟩
theorem lt_tried {N : Nat} (hN : N ≤ 100000) (x1 x2 : Int32) (σ : pS) (hJ : WR N σ σ) : ∃ v σ1 w τ1, f_X_tried_0 x1.toInt x2.toInt σ = some (v, σ1) ∧ f_M_tried_84 x1.toInt x2.toInt σ1 = some (w, τ1) ∧ WR (N + 1) τ1 τ1 ∧ (false = true → v = w) := by
  have r1 := fb_rng x1
  have r2 := fb_rng x2
  exact lw_two (F := f_X_tried_0 x1.toInt x2.toInt) (G := f_M_tried_84 x1.toInt x2.toInt) (cmp := false) (fun σ τ h => by obtain ⟨v, σ1, τ1, q1, q2, q3⟩ := w_tried x1.toInt x2.toInt h (by omega) (by omega); exact ⟨v, v, σ1, τ1, q1, q2, q3, fun _ => rfl⟩) hJ
theorem lk_lastRun : lf_ck 0 45 1 102 1 = true ∧ lf_ck 84 48 1 216 1 = true := ⟨by decide +kernel, by decide +kernel⟩
theorem lt_lastRun {N : Nat} (hN : N ≤ 100000) (x1 : Int32) (σ : pS) (hJ : WR N σ σ) : ∃ v σ1 w τ1, f_X_lastRun_0 x1.toInt σ = some (v, σ1) ∧ f_M_lastRun_84 x1.toInt σ1 = some (w, τ1) ∧ WR (N + 1) τ1 τ1 ∧ (false = true → v = w) := by
  have r1 := fb_rng x1
  exact lw_two (F := f_X_lastRun_0 x1.toInt) (G := f_M_lastRun_84 x1.toInt) (cmp := false) (fun σ τ h => by obtain ⟨v, σ1, τ1, q1, q2, q3⟩ := w_lastRun x1.toInt h; exact ⟨v, v, σ1, τ1, q1, q2, q3, fun _ => rfl⟩) hJ
theorem lk_opIs : lf_ck 0 49 2 103 2 = true ∧ lf_ck 84 52 2 226 2 = true := ⟨by decide +kernel, by decide +kernel⟩
theorem lt_opIs {N : Nat} (hN : N ≤ 100000) (x1 x2 : Int32) (σ : pS) (hJ : WR N σ σ) : ∃ v σ1 w τ1, f_X_opIs_0 x1.toInt x2.toInt σ = some (v, σ1) ∧ f_M_opIs_84 x1.toInt x2.toInt σ1 = some (w, τ1) ∧ WR (N + 1) τ1 τ1 ∧ (false = true → v = w) := by
  have r1 := fb_rng x1
  have r2 := fb_rng x2
  exact lw_two (F := f_X_opIs_0 x1.toInt x2.toInt) (G := f_M_opIs_84 x1.toInt x2.toInt) (cmp := false) (fun σ τ h => by obtain ⟨v, σ1, τ1, q1, q2, q3⟩ := w_opIs x1.toInt x2.toInt (by omega) h; exact ⟨v, v, σ1, τ1, q1, q2, q3, fun _ => rfl⟩) hJ
theorem lk_source : lf_ck 0 53 2 108 1 = true ∧ lf_ck 84 56 2 170 2 = true := ⟨by decide +kernel, by decide +kernel⟩
theorem lt_source {N : Nat} (hN : N ≤ 100000) (x1 x2 : Int32) (σ : pS) (hJ : WR N σ σ) : ∃ v σ1 w τ1, f_X_source_0 x1.toInt x2.toInt σ = some (v, σ1) ∧ f_M_source_84 x1.toInt x2.toInt σ1 = some (w, τ1) ∧ WR (N + 1) τ1 τ1 ∧ (false = true → v = w) := by
  have r1 := fb_rng x1
  have r2 := fb_rng x2
  exact lw_two (F := f_X_source_0 x1.toInt x2.toInt) (G := f_M_source_84 x1.toInt x2.toInt) (cmp := false) (fun σ τ h => by obtain ⟨v, σ1, τ1, q1, q2, q3⟩ := w_source x1.toInt x2.toInt h; exact ⟨v, v, σ1, τ1, q1, q2, q3, fun _ => rfl⟩) hJ
theorem lk_now : lf_ck 0 57 1 109 1 = true ∧ lf_ck 84 60 1 217 1 = true := ⟨by decide +kernel, by decide +kernel⟩
theorem lt_now {N : Nat} (hN : N ≤ 100000) (x1 : Int32) (σ : pS) (hJ : WR N σ σ) : ∃ v σ1 w τ1, f_X_now_0 x1.toInt σ = some (v, σ1) ∧ f_M_now_84 x1.toInt σ1 = some (w, τ1) ∧ WR (N + 1) τ1 τ1 ∧ (false = true → v = w) := by
  have r1 := fb_rng x1
  exact lw_two (F := f_X_now_0 x1.toInt) (G := f_M_now_84 x1.toInt) (cmp := false) (fun σ τ h => by obtain ⟨v, σ1, τ1, q1, q2, q3⟩ := w_now x1.toInt h; exact ⟨v, v, σ1, τ1, q1, q2, q3, fun _ => rfl⟩) hJ
theorem lk_plain : lf_ck 0 61 1 110 4 = true ∧ lf_ck 84 64 1 218 3 = true := ⟨by decide +kernel, by decide +kernel⟩
theorem lt_plain {N : Nat} (hN : N ≤ 100000) (x1 : Int32) (σ : pS) (hJ : WR N σ σ) : ∃ v σ1 w τ1, f_X_plain_0 x1.toInt σ = some (v, σ1) ∧ f_M_plain_84 x1.toInt σ1 = some (w, τ1) ∧ WR (N + 1) τ1 τ1 ∧ (false = true → v = w) := by
  have r1 := fb_rng x1
  exact lw_two (F := f_X_plain_0 x1.toInt) (G := f_M_plain_84 x1.toInt) (cmp := false) (fun σ τ h => by obtain ⟨v, σ1, τ1, q1, q2, q3⟩ := w_plain x1.toInt h; exact ⟨v, v, σ1, τ1, q1, q2, q3, fun _ => rfl⟩) hJ
theorem lk_unlike : lf_ck 0 65 1 114 6 = true ∧ lf_ck 84 68 1 221 10 = true := ⟨by decide +kernel, by decide +kernel⟩
theorem lt_unlike {N : Nat} (hN : N ≤ 100000) (x1 : Int32) (σ : pS) (hJ : WR N σ σ) : ∃ v σ1 w τ1, f_X_unlike_0 x1.toInt σ = some (v, σ1) ∧ f_M_unlike_84 x1.toInt σ1 = some (w, τ1) ∧ WR (N + 1) τ1 τ1 ∧ (false = true → v = w) := by
  have r1 := fb_rng x1
  exact lw_two (F := f_X_unlike_0 x1.toInt) (G := f_M_unlike_84 x1.toInt) (cmp := false) (fun σ τ h => by obtain ⟨v, σ1, τ1, q1, q2, q3⟩ := w_unlike x1.toInt h; exact ⟨v, v, σ1, τ1, q1, q2, q3, fun _ => rfl⟩) hJ
theorem lk_fastest : lf_ck 0 69 1 116 6 = true ∧ lf_ck 84 72 1 215 10 = true := ⟨by decide +kernel, by decide +kernel⟩
theorem lt_fastest {N : Nat} (hN : N ≤ 100000) (x1 : Int32) (σ : pS) (hJ : WR N σ σ) : ∃ v σ1 w τ1, f_X_fastest_0 x1.toInt σ = some (v, σ1) ∧ f_M_fastest_84 x1.toInt σ1 = some (w, τ1) ∧ WR (N + 1) τ1 τ1 ∧ (false = true → v = w) := by
  have r1 := fb_rng x1
  exact lw_two (F := f_X_fastest_0 x1.toInt) (G := f_M_fastest_84 x1.toInt) (cmp := false) (fun σ τ h => by obtain ⟨v, σ1, τ1, q1, q2, q3⟩ := w_fastest x1.toInt h; exact ⟨v, v, σ1, τ1, q1, q2, q3, fun _ => rfl⟩) hJ
theorem lk_cautious : lf_ck 0 73 2 117 6 = true ∧ lf_ck 84 76 2 214 10 = true := ⟨by decide +kernel, by decide +kernel⟩
theorem lt_cautious {N : Nat} (hN : N ≤ 100000) (x1 x2 : Int32) (σ : pS) (hJ : WR N σ σ) : ∃ v σ1 w τ1, f_X_cautious_0 x1.toInt x2.toInt σ = some (v, σ1) ∧ f_M_cautious_84 x1.toInt x2.toInt σ1 = some (w, τ1) ∧ WR (N + 1) τ1 τ1 ∧ (false = true → v = w) := by
  have r1 := fb_rng x1
  have r2 := fb_rng x2
  exact lw_two (F := f_X_cautious_0 x1.toInt x2.toInt) (G := f_M_cautious_84 x1.toInt x2.toInt) (cmp := false) (fun σ τ h => by obtain ⟨v, σ1, τ1, q1, q2, q3⟩ := w_cautious x1.toInt x2.toInt h; exact ⟨v, v, σ1, τ1, q1, q2, q3, fun _ => rfl⟩) hJ
theorem lk_worst : lf_ck 0 77 1 118 0 = true ∧ lf_ck 84 80 1 228 1 = true := ⟨by decide +kernel, by decide +kernel⟩
theorem lt_worst {N : Nat} (hN : N ≤ 100000) (x1 : Int32) (σ : pS) (hJ : WR N σ σ) : ∃ v σ1 w τ1, f_X_worst_0 x1.toInt σ = some (v, σ1) ∧ f_M_worst_84 x1.toInt σ1 = some (w, τ1) ∧ WR (N + 1) τ1 τ1 ∧ (false = true → v = w) := by
  have r1 := fb_rng x1
  exact lw_two (F := f_X_worst_0 x1.toInt) (G := f_M_worst_84 x1.toInt) (cmp := false) (fun σ τ h => by obtain ⟨v, σ1, τ1, q1, q2, q3⟩ := w_worst x1.toInt h; exact ⟨v, v, σ1, τ1, q1, q2, q3, fun _ => rfl⟩) hJ
theorem lk_deep : lf_ck 0 81 0 119 0 = true ∧ lf_ck 84 85 0 224 3 = true := ⟨by decide +kernel, by decide +kernel⟩
theorem lt_deep {N : Nat} (hN : N ≤ 100000) (σ : pS) (hJ : WR N σ σ) : ∃ v σ1 w τ1, f_X_deep_0 σ = some (v, σ1) ∧ f_M_deep_84 σ1 = some (w, τ1) ∧ WR (N + 1) τ1 τ1 ∧ (false = true → v = w) := by
  exact lw_two (F := f_X_deep_0) (G := f_M_deep_84) (cmp := false) (fun σ τ h => by obtain ⟨v, σ1, τ1, q1, q2, q3⟩ := w_deep h; exact ⟨v, v, σ1, τ1, q1, q2, q3, fun _ => rfl⟩) hJ
theorem lk_mix : lf_ck 0 86 0 120 4 = true ∧ lf_ck 84 89 0 222 3 = true := ⟨by decide +kernel, by decide +kernel⟩
theorem lt_mix {N : Nat} (hN : N ≤ 100000) (σ : pS) (hJ : WR N σ σ) : ∃ v σ1 w τ1, f_X_mix_0 σ = some (v, σ1) ∧ f_M_mix_84 σ1 = some (w, τ1) ∧ WR (N + 1) τ1 τ1 ∧ (false = true → v = w) := by
  exact lw_two (F := f_X_mix_0) (G := f_M_mix_84) (cmp := false) (fun σ τ h => by obtain ⟨v, σ1, τ1, q1, q2, q3⟩ := w_mix h; exact ⟨v, v, σ1, τ1, q1, q2, q3, fun _ => rfl⟩) hJ
theorem lk_watch : lf_ck 0 90 2 123 1 = true ∧ lf_ck 84 93 2 230 2 = true := ⟨by decide +kernel, by decide +kernel⟩
theorem lt_watch {N : Nat} (hN : N ≤ 100000) (x1 x2 : Int32) (σ : pS) (hJ : WR N σ σ) : ∃ v σ1 w τ1, f_X_watch_0 x1.toInt x2.toInt σ = some (v, σ1) ∧ f_M_watch_84 x1.toInt x2.toInt σ1 = some (w, τ1) ∧ WR (N + 1) τ1 τ1 ∧ (false = true → v = w) := by
  have r1 := fb_rng x1
  have r2 := fb_rng x2
  exact lw_two (F := f_X_watch_0 x1.toInt x2.toInt) (G := f_M_watch_84 x1.toInt x2.toInt) (cmp := false) (fun σ τ h => by obtain ⟨v, w, σ1, τ1, q1, q2, q3⟩ := w_watch x1.toInt x2.toInt h; exact ⟨v, w, σ1, τ1, q1, q2, q3, fun hc => by cases hc⟩) hJ
theorem lk_watched : lf_ck 0 94 3 125 3 = true ∧ lf_ck 84 98 3 231 1 = true := ⟨by decide +kernel, by decide +kernel⟩
theorem lt_watched {N : Nat} (hN : N ≤ 100000) (x1 x2 x3 : Int32) (σ : pS) (hJ : WR N σ σ) : ∃ v σ1 w τ1, f_X_watched_0 x1.toInt x2.toInt x3.toInt σ = some (v, σ1) ∧ f_M_watched_84 x1.toInt x2.toInt x3.toInt σ1 = some (w, τ1) ∧ WR (N + 1) τ1 τ1 ∧ (false = true → v = w) := by
  have r1 := fb_rng x1
  have r2 := fb_rng x2
  have r3 := fb_rng x3
  exact lw_two (F := f_X_watched_0 x1.toInt x2.toInt x3.toInt) (G := f_M_watched_84 x1.toInt x2.toInt x3.toInt) (cmp := false) (fun σ τ h => by obtain ⟨v, σ1, τ1, q1, q2, q3⟩ := w_watched x1.toInt x2.toInt x3.toInt h; exact ⟨v, v, σ1, τ1, q1, q2, q3, fun _ => rfl⟩) hJ
theorem lk_forget : lf_ck 0 99 0 126 2 = true ∧ lf_ck 84 102 0 232 1 = true := ⟨by decide +kernel, by decide +kernel⟩
theorem lt_forget {N : Nat} (hN : N ≤ 100000) (σ : pS) (hJ : WR N σ σ) : ∃ v σ1 w τ1, f_X_forget_0 σ = some (v, σ1) ∧ f_M_forget_84 σ1 = some (w, τ1) ∧ WR (N + 1) τ1 τ1 ∧ (false = true → v = w) := by
  exact lw_two (F := f_X_forget_0) (G := f_M_forget_84) (cmp := false) (fun σ τ h => by obtain ⟨v, σ1, τ1, q1, q2, q3⟩ := w_forget h; exact ⟨v, v, σ1, τ1, q1, q2, q3, fun _ => rfl⟩) hJ
theorem lk_seed : lf_ck 0 103 1 128 0 = true ∧ lf_ck 84 107 1 234 1 = true := ⟨by decide +kernel, by decide +kernel⟩
theorem lt_seed {N : Nat} (hN : N ≤ 100000) (x1 : Int32) (σ : pS) (hJ : WR N σ σ) : ∃ v σ1 w τ1, f_X_seed_0 x1.toInt σ = some (v, σ1) ∧ f_M_seed_84 x1.toInt σ1 = some (w, τ1) ∧ WR (N + 1) τ1 τ1 ∧ (false = true → v = w) := by
  have r1 := fb_rng x1
  exact lw_two (F := f_X_seed_0 x1.toInt) (G := f_M_seed_84 x1.toInt) (cmp := false) (fun σ τ h => by obtain ⟨v, σ1, τ1, q1, q2, q3⟩ := w_seed x1.toInt h; exact ⟨v, v, σ1, τ1, q1, q2, q3, fun _ => rfl⟩) hJ
theorem lk_keep : lf_ck 0 108 0 129 3 = true ∧ lf_ck 84 111 0 235 0 = true := ⟨by decide +kernel, by decide +kernel⟩
theorem lt_keep {N : Nat} (hN : N ≤ 100000) (σ : pS) (hJ : WR N σ σ) : ∃ v σ1 w τ1, f_X_keep_0 σ = some (v, σ1) ∧ f_M_keep_84 σ1 = some (w, τ1) ∧ WR (N + 1) τ1 τ1 ∧ (false = true → v = w) := by
  exact lw_two (F := f_X_keep_0) (G := f_M_keep_84) (cmp := false) (fun σ τ h => by obtain ⟨v, σ1, τ1, q1, q2, q3⟩ := w_keep h; exact ⟨v, v, σ1, τ1, q1, q2, q3, fun _ => rfl⟩) hJ
theorem lk_undo : lf_ck 0 112 0 130 2 = true ∧ lf_ck 84 116 0 236 0 = true := ⟨by decide +kernel, by decide +kernel⟩
theorem lt_undo {N : Nat} (hN : N ≤ 100000) (σ : pS) (hJ : WR N σ σ) : ∃ v σ1 w τ1, f_X_undo_0 σ = some (v, σ1) ∧ f_M_undo_84 σ1 = some (w, τ1) ∧ WR (N + 1) τ1 τ1 ∧ (false = true → v = w) := by
  exact lw_two (F := f_X_undo_0) (G := f_M_undo_84) (cmp := false) (fun σ τ h => by obtain ⟨v, σ1, τ1, q1, q2, q3⟩ := w_undo h; exact ⟨v, v, σ1, τ1, q1, q2, q3, fun _ => rfl⟩) hJ
theorem lk_check : lf_ck 0 117 1 131 1 = true ∧ lf_ck 84 120 1 237 1 = true := ⟨by decide +kernel, by decide +kernel⟩
theorem lt_check {N : Nat} (hN : N ≤ 100000) (x1 : Int32) (σ : pS) (hJ : WR N σ σ) : ∃ v σ1 w τ1, f_X_check_0 x1.toInt σ = some (v, σ1) ∧ f_M_check_84 x1.toInt σ1 = some (w, τ1) ∧ WR (N + 1) τ1 τ1 ∧ (false = true → v = w) := by
  have r1 := fb_rng x1
  exact lw_two (F := f_X_check_0 x1.toInt) (G := f_M_check_84 x1.toInt) (cmp := false) (fun σ τ h => by obtain ⟨v, σ1, τ1, q1, q2, q3⟩ := w_check x1.toInt h; exact ⟨v, v, σ1, τ1, q1, q2, q3, fun _ => rfl⟩) hJ
theorem lk_count : lf_ck 0 121 1 132 1 = true ∧ lf_ck 84 124 1 239 1 = true := ⟨by decide +kernel, by decide +kernel⟩
theorem lt_count {N : Nat} (hN : N ≤ 100000) (x1 : Int32) (σ : pS) (hJ : WR N σ σ) : ∃ v σ1 w τ1, f_X_count_0 x1.toInt σ = some (v, σ1) ∧ f_M_count_84 x1.toInt σ1 = some (w, τ1) ∧ WR (N + 1) τ1 τ1 ∧ (true = true → v = w) := by
  have r1 := fb_rng x1
  exact lw_two (F := f_X_count_0 x1.toInt) (G := f_M_count_84 x1.toInt) (cmp := true) (fun σ τ h => by obtain ⟨v, σ1, τ1, q1, q2, q3⟩ := w_count x1.toInt h; exact ⟨v, v, σ1, τ1, q1, q2, q3, fun _ => rfl⟩) hJ
