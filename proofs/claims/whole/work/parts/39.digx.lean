theorem dgX_6 {σ0 c : tl_St} {he : Nat → Int32} {fl : Bool} {N h u t C : Nat} {σ : tl_St} (H0 : re_P σ0 c he fl N h u t C) (H : dg_K σ0 c he fl N h u t C σ)  (k : Int64 → Option (Int64 × tl_St)) (v : Int64) : ∀ (m n j : Nat), j + m = 8 → m < n → fX3_digest_L6 σ k n (dg_s (dg_vC σ0) v j) (nI j) = k (dg_s (dg_vC σ0) v 8) := by
  intro m
  induction m with
  | zero =>
    intro n j hj hn
    obtain ⟨n, rfl⟩ : ∃ n', n = n' + 1 := ⟨n - 1, by omega⟩
    obtain rfl : j = 8 := by omega
    rw [fX3_digest_L6, if_pos (show (7 : Int32) < nI 8 by decide)]
  | succ m ih =>
    intro n j hj hn
    obtain ⟨n, rfl⟩ : ∃ n', n = n' + 1 := ⟨n - 1, by omega⟩
    have hg : ¬ (7 : Int32) < nI j := fun q => absurd ((sp_lt (a := 7) (b := j) (by omega) (by omega)).mp q) (by omega)
    rw [fX3_digest_L6, if_neg hg, (dg_count H0 H (show j < 8 by omega)).1, tl_oe]
    simp only [tl_be, dg_fold]
    rw [← nI_succ]
    exact ih n (j + 1) (by omega) (by omega)
theorem dgX_20 {σ0 c : tl_St} {he : Nat → Int32} {fl : Bool} {N h u t C : Nat} {σ : tl_St} (H0 : re_P σ0 c he fl N h u t C) (H : dg_K σ0 c he fl N h u t C σ) {i : Nat} (hi : i < N) (k : Int64 → Option (Int64 × tl_St)) (v : Int64) : ∀ (m n j : Nat), j + m = 7 → m < n → fX3_foldBasins_L20 σ (nI i) k n (dg_s (dg_vI σ0 i) v j) (nI j) = k (dg_s (dg_vI σ0 i) v 7) := by
  intro m
  induction m with
  | zero =>
    intro n j hj hn
    obtain ⟨n, rfl⟩ : ∃ n', n = n' + 1 := ⟨n - 1, by omega⟩
    obtain rfl : j = 7 := by omega
    rw [fX3_foldBasins_L20, if_pos (show (6 : Int32) < nI 7 by decide)]
  | succ m ih =>
    intro n j hj hn
    obtain ⟨n, rfl⟩ : ∃ n', n = n' + 1 := ⟨n - 1, by omega⟩
    have hg : ¬ (6 : Int32) < nI j := fun q => absurd ((sp_lt (a := 6) (b := j) (by omega) (by omega)).mp q) (by omega)
    rw [fX3_foldBasins_L20, if_neg hg, (dg_info H0 H hi (show j < 7 by omega)).1, tl_oe]
    simp only [tl_be, dg_fold]
    rw [← nI_succ]
    exact ih n (j + 1) (by omega) (by omega)
theorem dgX_85 {σ0 c : tl_St} {he : Nat → Int32} {fl : Bool} {N h u t C : Nat} {σ : tl_St} (H0 : re_P σ0 c he fl N h u t C) (H : dg_K σ0 c he fl N h u t C σ)  (k : Int64 → Option (Int64 × tl_St)) (v : Int64) : ∀ (m n j : Nat), j + m = 3 → m < n → fX3_foldBasins_L85 σ k n (dg_s (fun j => fX4_chamberBy σ0 (nI j)) v j) (nI j) = k (dg_s (fun j => fX4_chamberBy σ0 (nI j)) v 3) := by
  intro m
  induction m with
  | zero =>
    intro n j hj hn
    obtain ⟨n, rfl⟩ : ∃ n', n = n' + 1 := ⟨n - 1, by omega⟩
    obtain rfl : j = 3 := by omega
    rw [fX3_foldBasins_L85, if_pos (show (2 : Int32) < nI 3 by decide)]
  | succ m ih =>
    intro n j hj hn
    obtain ⟨n, rfl⟩ : ∃ n', n = n' + 1 := ⟨n - 1, by omega⟩
    have hg : ¬ (2 : Int32) < nI j := fun q => absurd ((sp_lt (a := 2) (b := j) (by omega) (by omega)).mp q) (by omega)
    rw [fX3_foldBasins_L85, if_neg hg, (dg_cham H0 H (show j < 3 by omega)).1]
    simp only [tl_be, dg_fold]
    rw [← nI_succ]
    exact ih n (j + 1) (by omega) (by omega)
theorem dgX_52 {σ0 c : tl_St} {he : Nat → Int32} {fl : Bool} {N h u t C : Nat} {σ : tl_St} (H0 : re_P σ0 c he fl N h u t C) (H : dg_K σ0 c he fl N h u t C σ)  (k : Int64 → Option Int64) (v : Int64) : ∀ (m n j : Nat), j + m = 5 → m < n → fX3_foldTurns_L52 σ k n (dg_s (dg_vT σ0) v j) (nI j) = k (dg_s (dg_vT σ0) v 5) := by
  intro m
  induction m with
  | zero =>
    intro n j hj hn
    obtain ⟨n, rfl⟩ : ∃ n', n = n' + 1 := ⟨n - 1, by omega⟩
    obtain rfl : j = 5 := by omega
    rw [fX3_foldTurns_L52, if_pos (show (4 : Int32) < nI 5 by decide)]
  | succ m ih =>
    intro n j hj hn
    obtain ⟨n, rfl⟩ : ∃ n', n = n' + 1 := ⟨n - 1, by omega⟩
    have hg : ¬ (4 : Int32) < nI j := fun q => absurd ((sp_lt (a := 4) (b := j) (by omega) (by omega)).mp q) (by omega)
    rw [fX3_foldTurns_L52, if_neg hg, (dg_total H0 H (show j < 5 by omega)).1, tl_oe]
    simp only [tl_be, dg_fold]
    rw [← nI_succ]
    exact ih n (j + 1) (by omega) (by omega)
theorem dgX_17 {σ0 c : tl_St} {he : Nat → Int32} {fl : Bool} {N h u t C : Nat} {σ : tl_St} (H0 : re_P σ0 c he fl N h u t C) (H : dg_K σ0 c he fl N h u t C σ) {i : Nat} (hi : i < t) (k : Int64 → Option Int64) (v : Int64) : ∀ (m n j : Nat), j + m = 9 → m < n → fX3_foldTurns_L17 σ (nI i) k n (dg_s (σ0 49) v (9 * i + j)) (nI j) = k (dg_s (σ0 49) v (9 * i + 9)) := by
  intro m
  induction m with
  | zero =>
    intro n j hj hn
    obtain ⟨n, rfl⟩ : ∃ n', n = n' + 1 := ⟨n - 1, by omega⟩
    obtain rfl : j = 9 := by omega
    rw [fX3_foldTurns_L17, if_pos (show (9 : Int32) ≤ nI 9 by decide)]
  | succ m ih =>
    intro n j hj hn
    obtain ⟨n, rfl⟩ : ∃ n', n = n' + 1 := ⟨n - 1, by omega⟩
    have hg : ¬ (9 : Int32) ≤ nI j := fun q => absurd ((sp_le (a := 9) (b := j) (by omega) (by omega)).mp q) (by omega)
    rw [fX3_foldTurns_L17, if_neg hg, (dg_ledger H hi (show j < 9 by omega)), tl_oe]
    simp only [tl_be, dg_fold]
    rw [← nI_succ]
    exact ih n (j + 1) (by omega) (by omega)
theorem dgX_5 {σ0 c : tl_St} {he : Nat → Int32} {fl : Bool} {N h u t C : Nat} {σ : tl_St} (H0 : re_P σ0 c he fl N h u t C) (H : dg_K σ0 c he fl N h u t C σ) (k : Int64 → Option Int64) (v : Int64) : ∀ (m n i : Nat), i + m = t → m < n → fX3_foldTurns_L5 σ k n (dg_s (σ0 49) v (9 * i)) (nI i) = k (dg_s (σ0 49) v (9 * t)) := by
  obtain ⟨l1, -, l3, -⟩ := id H.1.2.1
  intro m
  induction m with
  | zero =>
    intro n i hj hn
    obtain ⟨n, rfl⟩ : ∃ n', n = n' + 1 := ⟨n - 1, by omega⟩
    obtain rfl : i = t := by omega
    rw [fX3_foldTurns_L5, l1, if_pos (sp_ge rfl (by omega) (by omega))]
  | succ m ih =>
    intro n i hj hn
    obtain ⟨n, rfl⟩ : ∃ n', n = n' + 1 := ⟨n - 1, by omega⟩
    rw [fX3_foldTurns_L5, l1, if_neg (sp_nge rfl (by omega) (by omega))]
    simp only [tl_be]
    have z := dgX_17 H0 H (i := i) (by omega) (fun x14 => fX3_foldTurns_L5 σ k n x14 (nI i + 1)) v 9 1000 0 (by omega) (by omega)
    rw [nI_0] at z
    rw [show 9 * i = 9 * i + 0 from rfl, z, ← nI_succ]
    exact ih n (i + 1) (by omega) (by omega)
theorem dgX_turns {σ0 c : tl_St} {he : Nat → Int32} {fl : Bool} {N h u t C : Nat} {σ : tl_St} (H0 : re_P σ0 c he fl N h u t C) (H : dg_K σ0 c he fl N h u t C σ) (v : Int64) : fX3_foldTurns σ v = some (dg_s (dg_vT σ0) (dg_s (σ0 49) v (9 * t)) 5) := by
  have ht := H.1.2.1.2.2.1
  unfold fX3_foldTurns
  simp only [tl_be]
  have z := dgX_5 H0 H (fun x1 => fX3_foldTurns_L52 σ (fun x3 => some x3) 1000 x1 0) v t 1000 0 (by omega) (by omega)
  rw [nI_0] at z
  rw [show v = dg_s (σ0 49) v (9 * 0) from rfl, z]
  have z := dgX_52 H0 H (fun x3 => some x3) (dg_s (σ0 49) v (9 * t)) 5 1000 0 (by omega) (by omega)
  rw [nI_0] at z
  exact z
theorem dgX_w {σ0 c : tl_St} {he : Nat → Int32} {fl : Bool} {N h u t C : Nat} {σ : tl_St} (H : dg_K σ0 c he fl N h u t C σ) (k : Int64 → Option Int64) (v : Int64) : ∀ (m n w : Nat), w + m = 2 → m < n → fX3_foldBoats_L5 σ k n (dg_W σ0 C v w) (nI w) = k (dg_W σ0 C v 2) := by
  intro m
  induction m with
  | zero =>
    intro n i hj hn
    obtain ⟨n, rfl⟩ : ∃ n', n = n' + 1 := ⟨n - 1, by omega⟩
    obtain rfl : i = 2 := by omega
    rw [fX3_foldBoats_L5, if_pos (show (1 : Int32) < nI 2 by decide)]
  | succ m ih =>
    intro n w hj hn
    obtain ⟨n, rfl⟩ : ∃ n', n = n' + 1 := ⟨n - 1, by omega⟩
    have hg : ¬ (1 : Int32) < nI w := fun q => absurd ((sp_lt (a := 1) (b := w) (by omega) (by omega)).mp q) (by omega)
    rw [fX3_foldBoats_L5, if_neg hg]
    simp only [(dg_waits H (show w < 2 by omega) (a := -1) (by decide) (by decide)).1, (dg_waits H (show w < 2 by omega) (a := 0) (by decide) (by decide)).1, (dg_waits H (show w < 2 by omega) (a := 3) (by decide) (by decide)).1, tl_oe, tl_be, dg_fold]
    rw [← nI_succ]
    exact ih n (w + 1) (by omega) (by omega)
theorem dgX_boats {σ0 c : tl_St} {he : Nat → Int32} {fl : Bool} {N h u t C : Nat} {σ : tl_St} (H0 : re_P σ0 c he fl N h u t C) (H : dg_K σ0 c he fl N h u t C σ) (v : Int64) : fX3_foldBoats σ v = some (dg_s (dg_vN σ0) (dg_W σ0 C v 2) 2) := by
  unfold fX3_foldBoats
  simp only [tl_be]
  have n0 := (dg_next H0 H (show 0 < 2 by omega)).1
  have n1 := (dg_next H0 H (show 1 < 2 by omega)).1
  rw [show nI 1 = 1 from rfl] at n1
  rw [nI_0] at n0
  simp only [n0, n1, tl_oe, dg_fold]
  have z := dgX_w H (fun x1 => some (31 * (31 * x1 + ((fX4_nextBy σ0 0).getD 0).toInt64) + ((fX4_nextBy σ0 1).getD 0).toInt64)) v 2 1000 0 (by omega) (by omega)
  rw [nI_0] at z
  exact z
theorem dgX_b {σ0 c : tl_St} {he : Nat → Int32} {fl : Bool} {N h u t C : Nat} (H0 : re_P σ0 c he fl N h u t C) (k : tl_St → Int64 → Option (Int64 × tl_St)) (v : Int64) : ∀ (m n i : Nat) (σ : tl_St), dg_K σ0 c he fl N h u t C σ → i + m = N → m < n → ∃ σ', fX3_foldBasins_L5 k n σ (dg_B σ0 c he fl N h v i) (nI i) = k σ' (dg_B σ0 c he fl N h v N) ∧ (∀ d, d < 10 ∨ 18 < d → σ' d = σ d) := by
  obtain ⟨⟨hC, hH, -, -, -, -, -, -⟩, -⟩ := id H0
  have hN := hC.2.2.2.1
  intro m
  induction m with
  | zero =>
    intro n i σ H hj hn
    obtain ⟨n, rfl⟩ : ∃ n', n = n' + 1 := ⟨n - 1, by omega⟩
    obtain rfl : i = N := by omega
    refine ⟨σ, ?_, fun _ _ => rfl⟩
    rw [fX3_foldBasins_L5, H.1.1.2.2.2.2.1.2.1, if_pos (sp_ge rfl (by omega) (by omega))]
  | succ m ih =>
    intro n i σ H hj hn
    obtain ⟨n, rfl⟩ : ∃ n', n = n' + 1 := ⟨n - 1, by omega⟩
    have hi : i < N := by omega
    obtain ⟨⟨-, -, -, -, hX, hXf, -, -⟩, -⟩ := id H.1
    obtain ⟨σ1, x5, x6, z1, x1, hch⟩ := sp_bestBottom hC hH hi hX hXf
    have hp := sp_ch_part hch σ1
    obtain ⟨j, hj', ej⟩ := sp_bB_j (c := c) (N := N) (i := i) (fl := fl) (he := he) hC.2.2.1
    have hne : ¬ (sp_bB c N h fl he i).1 = -1 := by rw [ej]; exact sp_ne1 (by omega)
    rw [if_neg hne] at hp
    obtain ⟨σ2, z2, x2⟩ := ih n (i + 1) σ1 (H.X x1) (by omega) (by omega)
    refine ⟨σ2, ?_, fun d hd => by rw [x2 d hd, x1 d hd]⟩
    rw [fX3_foldBasins_L5, hX.2.1, if_neg (sp_nge rfl hi (by omega))]
    simp only [tl_be, z1, tl_oe2, dg_fold, hp.1, hp.2]
    have z := dgX_20 H0 H hi (fun x16 => fX3_foldBasins_L5 k n σ1 (31 * (31 * x16 + (sp_bB c N h fl he i).1.toInt64) + (sp_bB c N h fl he i).2.toInt64) (nI i + 1)) (dg_B σ0 c he fl N h v i) 7 1000 0 (by omega) (by omega)
    rw [nI_0] at z
    rw [← z2, nI_succ]
    exact z
theorem dgX_basins {σ0 c : tl_St} {he : Nat → Int32} {fl : Bool} {N h u t C : Nat} {σ : tl_St} (H0 : re_P σ0 c he fl N h u t C) (H : dg_K σ0 c he fl N h u t C σ) (v : Int64) : ∃ σ', fX3_foldBasins σ v = some (dg_s (fun j => fX4_chamberBy σ0 (nI j)) (dg_B σ0 c he fl N h v N) 3, σ') ∧ (∀ d, d < 10 ∨ 18 < d → σ' d = σ d) := by
  have hN := H0.1.1.2.2.2.1
  unfold fX3_foldBasins
  simp only [tl_be]
  obtain ⟨σ1, z1, x1⟩ := dgX_b H0 (fun σ1 x2 => fX3_foldBasins_L85 σ1 (fun x4 => some (x4, σ1)) 1000 x2 0) v N 1000 0 σ H (by omega) (by omega)
  rw [nI_0] at z1
  refine ⟨σ1, ?_, x1⟩
  rw [show v = dg_B σ0 c he fl N h v 0 from rfl, z1]
  have z := dgX_85 H0 (H.X x1) (fun x4 => some (x4, σ1)) (dg_B σ0 c he fl N h v N) 3 1000 0 (by omega) (by omega)
  rw [nI_0] at z
  exact z
theorem dgX_19 {σ0 c : tl_St} {he : Nat → Int32} {fl : Bool} {N h u t C : Nat} {σ : tl_St} (H0 : re_P σ0 c he fl N h u t C) (hX : σ 1 0 = nI h) (hs : ∀ j, j < h → σ (10 + 7) j = sp_st c fl N he j) (k : Int64 → Option (Int64 × tl_St)) (v : Int64) : ∀ (m n j : Nat), j + m = 41 → m < n → fX3_foldWhatWouldBe_L19 σ k n (dg_s (dg_vS c fl N h he) v j) (nI j) = k (dg_s (dg_vS c fl N h he) v 41) := by
  have h60 := H0.1.1.2.2.1
  intro m
  induction m with
  | zero =>
    intro n j hj hn
    obtain ⟨n, rfl⟩ : ∃ n', n = n' + 1 := ⟨n - 1, by omega⟩
    obtain rfl : j = 41 := by omega
    rw [fX3_foldWhatWouldBe_L19, if_pos (show (40 : Int32) < nI 41 by decide)]
  | succ m ih =>
    intro n j hj hn
    obtain ⟨n, rfl⟩ : ∃ n', n = n' + 1 := ⟨n - 1, by omega⟩
    have hg : ¬ (40 : Int32) < nI j := fun q => absurd ((sp_lt (a := 40) (b := j) (by omega) (by omega)).mp q) (by omega)
    have z := ih n (j + 1) (by omega) (by omega)
    rw [nI_succ] at z
    rw [fX3_foldWhatWouldBe_L19, if_neg hg, hX]
    simp only [tl_be, dg_fold, if_pos (sp_in (show j < 60 by omega) (by decide)), sp_cl (show j < 2 ^ 31 by omega)]
    rw [← z]
    by_cases hjh : j < h
    · rw [if_neg (sp_nge rfl hjh (by omega)), hs j hjh, dg_s, dg_vS, if_pos hjh]
    · rw [if_pos (sp_ge rfl (by omega) (by omega)), dg_s, dg_vS, if_neg hjh]
theorem dgX_would {σ0 c : tl_St} {he : Nat → Int32} {fl : Bool} {N h u t C : Nat} {σ : tl_St} (H0 : re_P σ0 c he fl N h u t C) (H : dg_K σ0 c he fl N h u t C σ) (v : Int64) : ∃ σ', fX3_foldWhatWouldBe σ v = some (dg_s (dg_nd c N h fl he) (31 * (31 * (31 * dg_s (dg_vS c fl N h he) (31 * v + (c 0 0).toInt64) 41 + (sp_A c N h fl he 1).2.2.toInt64) + (sp_A c N h fl he 2).2.2.toInt64) + (sp_A c N h fl he 10).2.2.toInt64) 2, σ') ∧ (∀ d, d < 10 ∨ 18 < d → σ' d = σ d) := by
  obtain ⟨⟨hC, hH, hu, hcu, hX, hXf, -, -⟩, -⟩ := id H.1
  obtain ⟨σ1, z1, x1, s1⟩ := re_tryTurn hC hH hX hXf
  have H1 := H.1.X x1
  obtain ⟨σ2, z2, x2⟩ := re_aheadX (T := 1) hC hH H1.1.2.2.2.2.1 H1.1.2.2.2.2.2.1 (by omega)
  have H2 := H1.X x2
  obtain ⟨σ3, z3, x3⟩ := re_aheadX (T := 2) hC hH H2.1.2.2.2.2.1 H2.1.2.2.2.2.2.1 (by omega)
  have H3 := H2.X x3
  obtain ⟨σ4, z4, x4⟩ := re_aheadX (T := 10) hC hH H3.1.2.2.2.2.1 H3.1.2.2.2.2.2.1 (by omega)
  have H4 := H3.X x4
  obtain ⟨σ5, y5, y6, z5, x5, hch⟩ := sp_leastNeeded hC hH H4.1.2.2.2.2.1 H4.1.2.2.2.2.2.1
  have hp := sp_ch_part hch σ5
  refine ⟨σ5, ?_, fun d hd => by rw [x5 d hd, x4 d hd, x3 d hd, x2 d hd, x1 d hd]⟩
  have z2' : fX3_ahead σ1 1 = some ((sp_A c N h fl he 1).2.2, σ2) := z2
  have z3' : fX3_ahead σ2 2 = some ((sp_A c N h fl he 2).2.2, σ3) := z3
  have z4' : fX3_ahead σ3 10 = some ((sp_A c N h fl he 10).2.2, σ4) := z4
  unfold fX3_foldWhatWouldBe
  simp only [tl_be, z1, tl_oe, z2', z3', z4', z5, tl_oe2, dg_fold, hp.1, hp.2, hX.1]
  have z := dgX_19 H0 (σ := σ1) (by rw [x1 1 (by omega), hX.1, hC.1]) s1 (fun x3 => some (31 * (31 * (31 * (31 * (31 * x3 + (sp_A c N h fl he 1).2.2.toInt64) + (sp_A c N h fl he 2).2.2.toInt64) + (sp_A c N h fl he 10).2.2.toInt64) + (sp_bN c N h fl he).1.toInt64) + (if (sp_bN c N h fl he).1 = -1 then -1 else (sp_bN c N h fl he).2).toInt64, σ5)) (31 * v + (c 0 0).toInt64) 41 1000 0 (by omega) (by omega)
  rw [nI_0] at z
  refine Eq.trans z ?_
  have e0 : dg_nd c N h fl he 0 = (sp_bN c N h fl he).1 := by
    unfold dg_nd
    by_cases q : (sp_bN c N h fl he).1 = -1
    · rw [if_pos q]
    · rw [if_neg q, if_pos nI_0]
  have e1 : dg_nd c N h fl he 1 = (if (sp_bN c N h fl he).1 = -1 then -1 else (sp_bN c N h fl he).2) := by
    unfold dg_nd
    by_cases q : (sp_bN c N h fl he).1 = -1
    · rw [if_pos q, if_pos q, q]
    · rw [if_neg q, if_neg q, if_neg (show ¬ nI 1 = 0 from by decide)]
  rw [← e1, ← e0]
  rfl
theorem dgX {σ c : tl_St} {he : Nat → Int32} {fl : Bool} {N h u t C : Nat} (H0 : re_P σ c he fl N h u t C) : ∃ σ', fX3_digest σ = some (dg_D σ c he fl N h t C, σ') ∧ (∀ d, d < 10 ∨ 18 < d → σ' d = σ d) := by
  have H : dg_K σ c he fl N h u t C σ := ⟨H0, rfl, rfl, rfl, rfl, fun _ _ _ => rfl⟩
  obtain ⟨σ1, z1, x1⟩ := dgX_basins H0 H (dg_s (dg_vC σ) 17 8)
  have H1 := H.X x1
  have z2 := dgX_boats H0 H1 (dg_s (fun j => fX4_chamberBy σ (nI j)) (dg_B σ c he fl N h (dg_s (dg_vC σ) 17 8) N) 3)
  have z3 := dgX_turns H0 H1 (dg_s (dg_vN σ) (dg_W σ C (dg_s (fun j => fX4_chamberBy σ (nI j)) (dg_B σ c he fl N h (dg_s (dg_vC σ) 17 8) N) 3) 2) 2)
  obtain ⟨σ2, z4, x2⟩ := dgX_would H0 H1 (dg_s (dg_vT σ) (dg_s (σ 49) (dg_s (dg_vN σ) (dg_W σ C (dg_s (fun j => fX4_chamberBy σ (nI j)) (dg_B σ c he fl N h (dg_s (dg_vC σ) 17 8) N) 3) 2) 2) (9 * t)) 5)
  refine ⟨σ2, ?_, fun d hd => by rw [x2 d hd, x1 d hd]⟩
  unfold fX3_digest
  simp only [tl_be]
  have z := dgX_6 H0 H (fun x1 => tl_o2 (fX3_foldBasins σ x1) fun r3 σ4 => tl_o1 (fX3_foldBoats σ4 r3) fun r5 => tl_o1 (fX3_foldTurns σ4 r5) fun r6 => tl_o2 (fX3_foldWhatWouldBe σ4 r6) fun r7 σ8 => some (r7, σ8)) 17 8 1000 0 (by omega) (by omega)
  rw [nI_0] at z
  refine Eq.trans z ?_
  simp only [z1, z2, z3, z4, tl_oe, tl_oe2]
  rfl

