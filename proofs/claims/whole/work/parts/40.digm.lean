theorem dgM_6 {σ0 c : tl_St} {he : Nat → Int32} {fl : Bool} {N h u t C : Nat} {σ : tl_St} (H0 : re_P σ0 c he fl N h u t C) (H : dg_K σ0 c he fl N h u t C σ)  (k : Int64 → Option (Int64 × tl_St)) (v : Int64) : ∀ (m n j : Nat), j + m = 8 → m < n → fX4_digest_L6 σ k n (dg_s (dg_vC σ0) v j) (nI j) = k (dg_s (dg_vC σ0) v 8) := by
  intro m
  induction m with
  | zero =>
    intro n j hj hn
    obtain ⟨n, rfl⟩ : ∃ n', n = n' + 1 := ⟨n - 1, by omega⟩
    obtain rfl : j = 8 := by omega
    rw [fX4_digest_L6, if_pos (show (8 : Int32) ≤ nI 8 by decide)]
  | succ m ih =>
    intro n j hj hn
    obtain ⟨n, rfl⟩ : ∃ n', n = n' + 1 := ⟨n - 1, by omega⟩
    have hg : ¬ (8 : Int32) ≤ nI j := fun q => absurd ((sp_le (a := 8) (b := j) (by omega) (by omega)).mp q) (by omega)
    rw [fX4_digest_L6, if_neg hg, (dg_count H0 H (show j < 8 by omega)).2, tl_oe]
    simp only [tl_be]
    rw [← nI_succ]
    exact ih n (j + 1) (by omega) (by omega)
theorem dgM_44 {σ0 c : tl_St} {he : Nat → Int32} {fl : Bool} {N h u t C : Nat} {σ : tl_St} (H0 : re_P σ0 c he fl N h u t C) (H : dg_K σ0 c he fl N h u t C σ) {i : Nat} (hi : i < N) (k : Int64 → Option (Int64 × tl_St)) (v : Int64) : ∀ (m n j : Nat), j + m = 7 → m < n → fX4_digest_L44 σ (nI i) k n (dg_s (dg_vI σ0 i) v j) (nI j) = k (dg_s (dg_vI σ0 i) v 7) := by
  intro m
  induction m with
  | zero =>
    intro n j hj hn
    obtain ⟨n, rfl⟩ : ∃ n', n = n' + 1 := ⟨n - 1, by omega⟩
    obtain rfl : j = 7 := by omega
    rw [fX4_digest_L44, if_pos (show (7 : Int32) ≤ nI 7 by decide)]
  | succ m ih =>
    intro n j hj hn
    obtain ⟨n, rfl⟩ : ∃ n', n = n' + 1 := ⟨n - 1, by omega⟩
    have hg : ¬ (7 : Int32) ≤ nI j := fun q => absurd ((sp_le (a := 7) (b := j) (by omega) (by omega)).mp q) (by omega)
    rw [fX4_digest_L44, if_neg hg, (dg_info H0 H hi (show j < 7 by omega)).2, tl_oe]
    simp only [tl_be]
    rw [← nI_succ]
    exact ih n (j + 1) (by omega) (by omega)
theorem dgM_108 {σ0 c : tl_St} {he : Nat → Int32} {fl : Bool} {N h u t C : Nat} {σ : tl_St} (H0 : re_P σ0 c he fl N h u t C) (H : dg_K σ0 c he fl N h u t C σ)  (k : Int64 → Option (Int64 × tl_St)) (v : Int64) : ∀ (m n j : Nat), j + m = 3 → m < n → fX4_digest_L108 σ k n (dg_s (fun j => fX4_chamberBy σ0 (nI j)) v j) (nI j) = k (dg_s (fun j => fX4_chamberBy σ0 (nI j)) v 3) := by
  intro m
  induction m with
  | zero =>
    intro n j hj hn
    obtain ⟨n, rfl⟩ : ∃ n', n = n' + 1 := ⟨n - 1, by omega⟩
    obtain rfl : j = 3 := by omega
    rw [fX4_digest_L108, if_pos (show (3 : Int32) ≤ nI 3 by decide)]
  | succ m ih =>
    intro n j hj hn
    obtain ⟨n, rfl⟩ : ∃ n', n = n' + 1 := ⟨n - 1, by omega⟩
    have hg : ¬ (3 : Int32) ≤ nI j := fun q => absurd ((sp_le (a := 3) (b := j) (by omega) (by omega)).mp q) (by omega)
    rw [fX4_digest_L108, if_neg hg, (dg_cham H0 H (show j < 3 by omega)).2]
    simp only [tl_be]
    rw [← nI_succ]
    exact ih n (j + 1) (by omega) (by omega)
theorem dgM_248 {σ0 c : tl_St} {he : Nat → Int32} {fl : Bool} {N h u t C : Nat} {σ : tl_St} (H0 : re_P σ0 c he fl N h u t C) (H : dg_K σ0 c he fl N h u t C σ)  (k : Int64 → Option (Int64 × tl_St)) (v : Int64) : ∀ (m n j : Nat), j + m = 5 → m < n → fX4_digest_L248 σ k n (dg_s (dg_vT σ0) v j) (nI j) = k (dg_s (dg_vT σ0) v 5) := by
  intro m
  induction m with
  | zero =>
    intro n j hj hn
    obtain ⟨n, rfl⟩ : ∃ n', n = n' + 1 := ⟨n - 1, by omega⟩
    obtain rfl : j = 5 := by omega
    rw [fX4_digest_L248, if_pos (show (5 : Int32) ≤ nI 5 by decide)]
  | succ m ih =>
    intro n j hj hn
    obtain ⟨n, rfl⟩ : ∃ n', n = n' + 1 := ⟨n - 1, by omega⟩
    have hg : ¬ (5 : Int32) ≤ nI j := fun q => absurd ((sp_le (a := 5) (b := j) (by omega) (by omega)).mp q) (by omega)
    rw [fX4_digest_L248, if_neg hg, (dg_total H0 H (show j < 5 by omega)).2, tl_oe]
    simp only [tl_be]
    rw [← nI_succ]
    exact ih n (j + 1) (by omega) (by omega)
theorem dgM_189 {σ0 c : tl_St} {he : Nat → Int32} {fl : Bool} {N h u t C : Nat} {σ : tl_St} (H0 : re_P σ0 c he fl N h u t C) (H : dg_K σ0 c he fl N h u t C σ)  (k : Int64 → Option (Int64 × tl_St)) (v : Int64) : ∀ (m n j : Nat), j + m = 2 → m < n → fX4_digest_L189 σ k n (dg_s (dg_vN σ0) v j) (nI j) = k (dg_s (dg_vN σ0) v 2) := by
  intro m
  induction m with
  | zero =>
    intro n j hj hn
    obtain ⟨n, rfl⟩ : ∃ n', n = n' + 1 := ⟨n - 1, by omega⟩
    obtain rfl : j = 2 := by omega
    rw [fX4_digest_L189, if_pos (show (2 : Int32) ≤ nI 2 by decide)]
  | succ m ih =>
    intro n j hj hn
    obtain ⟨n, rfl⟩ : ∃ n', n = n' + 1 := ⟨n - 1, by omega⟩
    have hg : ¬ (2 : Int32) ≤ nI j := fun q => absurd ((sp_le (a := 2) (b := j) (by omega) (by omega)).mp q) (by omega)
    rw [fX4_digest_L189, if_neg hg, (dg_next H0 H (show j < 2 by omega)).2, tl_oe]
    simp only [tl_be]
    rw [← nI_succ]
    exact ih n (j + 1) (by omega) (by omega)
theorem dgM_215 {σ0 c : tl_St} {he : Nat → Int32} {fl : Bool} {N h u t C : Nat} {σ : tl_St} (H0 : re_P σ0 c he fl N h u t C) (H : dg_K σ0 c he fl N h u t C σ) (k : Int64 → Option (Int64 × tl_St)) (v : Int64) : ∀ (m n j : Nat), j + m = 9 * t → m < n → fX4_digest_L215 σ k n (dg_s (σ0 49) v j) (nI j) = k (dg_s (σ0 49) v (9 * t)) := by
  obtain ⟨-, l2, l3, -⟩ := id H.1.2.1
  have e9 : (9 : Int32) * nI t = nI (9 * t) := by rw [show (9 : Int32) = nI 9 from rfl, pk_mul]
  intro m
  induction m with
  | zero =>
    intro n j hj hn
    obtain ⟨n, rfl⟩ : ∃ n', n = n' + 1 := ⟨n - 1, by omega⟩
    obtain rfl : j = 9 * t := by omega
    rw [fX4_digest_L215, l2, e9, if_pos (sp_ge rfl (by omega) (by omega))]
  | succ m ih =>
    intro n j hj hn
    obtain ⟨n, rfl⟩ : ∃ n', n = n' + 1 := ⟨n - 1, by omega⟩
    rw [fX4_digest_L215, l2, e9, if_neg (sp_nge rfl (by omega) (by omega)), if_pos (sp_in (by omega) (by decide)), sp_cl (by omega), H.2.2.2.2.1]
    simp only [tl_be]
    rw [← nI_succ]
    exact ih n (j + 1) (by omega) (by omega)
theorem dgM_w {σ0 c : tl_St} {he : Nat → Int32} {fl : Bool} {N h u t C : Nat} {σ : tl_St} (H : dg_K σ0 c he fl N h u t C σ) (k : Int64 → Option (Int64 × tl_St)) (v : Int64) : ∀ (m n w : Nat), w + m = 2 → m < n → fX4_digest_L134 σ k n (dg_W σ0 C v w) (nI w) = k (dg_W σ0 C v 2) := by
  intro m
  induction m with
  | zero =>
    intro n i hj hn
    obtain ⟨n, rfl⟩ : ∃ n', n = n' + 1 := ⟨n - 1, by omega⟩
    obtain rfl : i = 2 := by omega
    rw [fX4_digest_L134, if_pos (show (2 : Int32) ≤ nI 2 by decide)]
  | succ m ih =>
    intro n w hj hn
    obtain ⟨n, rfl⟩ : ∃ n', n = n' + 1 := ⟨n - 1, by omega⟩
    have hg : ¬ (2 : Int32) ≤ nI w := fun q => absurd ((sp_le (a := 2) (b := w) (by omega) (by omega)).mp q) (by omega)
    rw [fX4_digest_L134, if_neg hg]
    simp only [(dg_waits H (show w < 2 by omega) (a := -1) (by decide) (by decide)).2, (dg_waits H (show w < 2 by omega) (a := 0) (by decide) (by decide)).2, (dg_waits H (show w < 2 by omega) (a := 3) (by decide) (by decide)).2, tl_oe, tl_be]
    rw [← nI_succ]
    exact ih n (w + 1) (by omega) (by omega)
theorem dgM_b {σ0 c : tl_St} {he : Nat → Int32} {fl : Bool} {N h u t C : Nat} (H0 : re_P σ0 c he fl N h u t C) (v : Int64) : ∀ (m n i : Nat) (σ : tl_St), dg_K σ0 c he fl N h u t C σ → i + m = N → m < n → ∃ σ', (∀ k, fX4_digest_L33 k n σ (dg_B σ0 c he fl N h v i) (nI i) = k σ' (dg_B σ0 c he fl N h v N)) ∧ dg_K σ0 c he fl N h u t C σ' := by
  obtain ⟨⟨hC, hH, -, -, -, -, -, -⟩, -⟩ := id H0
  have hN := hC.2.2.2.1
  intro m
  induction m with
  | zero =>
    intro n i σ H hj hn
    obtain ⟨n, rfl⟩ : ∃ n', n = n' + 1 := ⟨n - 1, by omega⟩
    obtain rfl : i = N := by omega
    refine ⟨σ, fun k => ?_, H⟩
    rw [fX4_digest_L33, H.1.1.2.2.2.2.2.2.1.2.1, if_pos (sp_ge rfl (by omega) (by omega))]
  | succ m ih =>
    intro n i σ H hj hn
    obtain ⟨n, rfl⟩ : ∃ n', n = n' + 1 := ⟨n - 1, by omega⟩
    have hi : i < N := by omega
    obtain ⟨σ1, z1, k1⟩ := sp_betterBy (a := 0) hC hH hi H.1.1.2.2.2.2.2.2.1 H.1.1.2.2.2.2.2.2.2
    have H1 := H.M k1
    obtain ⟨σ2, z2, k2⟩ := sp_betterBy (a := 1) hC hH hi H1.1.1.2.2.2.2.2.2.1 H1.1.1.2.2.2.2.2.2.2
    have H2 := H1.M k2
    rw [if_pos rfl] at z1
    rw [if_neg re_10] at z2
    obtain ⟨σ3, z3, H3⟩ := ih n (i + 1) σ2 H2 (by omega) (by omega)
    refine ⟨σ3, fun k => ?_, H3⟩
    rw [fX4_digest_L33, H.1.1.2.2.2.2.2.2.1.2.1, if_neg (sp_nge rfl hi (by omega))]
    simp only [tl_be, z1, z2, tl_oe2]
    have z := dgM_44 H0 H hi (fun x16 => fX4_digest_L33 k n σ2 (31 * (31 * x16 + (sp_bB c N h fl he i).1.toInt64) + (sp_bB c N h fl he i).2.toInt64) (nI i + 1)) (dg_B σ0 c he fl N h v i) 7 1000 0 (by omega) (by omega)
    rw [nI_0] at z
    rw [← z3 k, nI_succ]
    exact z
theorem dgM_278 {σ0 c : tl_St} {he : Nat → Int32} {fl : Bool} {N h u t C : Nat} {σ : tl_St} (H0 : re_P σ0 c he fl N h u t C) (H : dg_K σ0 c he fl N h u t C σ) (hs : ∀ j, j < h → σ 46 j = sp_st c fl N he j) (k : Int64 → Option (Int64 × tl_St)) (v : Int64) : ∀ (m n j : Nat), j + m = 41 → m < n → fX4_digest_L278 σ k n (dg_s (dg_vS c fl N h he) v j) (nI j) = k (dg_s (dg_vS c fl N h he) v 41) := by
  intro m
  induction m with
  | zero =>
    intro n j hj hn
    obtain ⟨n, rfl⟩ : ∃ n', n = n' + 1 := ⟨n - 1, by omega⟩
    obtain rfl : j = 41 := by omega
    rw [fX4_digest_L278, if_pos (show (41 : Int32) ≤ nI 41 by decide)]
  | succ m ih =>
    intro n j hj hn
    obtain ⟨n, rfl⟩ : ∃ n', n = n' + 1 := ⟨n - 1, by omega⟩
    have hg : ¬ (41 : Int32) ≤ nI j := fun q => absurd ((sp_le (a := 41) (b := j) (by omega) (by omega)).mp q) (by omega)
    rw [fX4_digest_L278, if_neg hg, re_stepBy H.1.1.1 H.1.1.2.2.2.2.2.2.1 hs (by omega), tl_oe]
    simp only [tl_be]
    rw [← nI_succ]
    exact ih n (j + 1) (by omega) (by omega)
theorem dgM_345 {σ0 c : tl_St} {he : Nat → Int32} {fl : Bool} {N h u t C : Nat} (v : Int64) : ∀ (m n j : Nat) (σ : tl_St), dg_K σ0 c he fl N h u t C σ → j + m = 2 → m < n → ∃ σ', (∀ k, fX4_digest_L345 k n σ (dg_s (dg_nd c N h fl he) v j) (nI j) = k σ' (dg_s (dg_nd c N h fl he) v 2)) ∧ dg_K σ0 c he fl N h u t C σ' := by
  intro m
  induction m with
  | zero =>
    intro n j σ H hj hn
    obtain ⟨n, rfl⟩ : ∃ n', n = n' + 1 := ⟨n - 1, by omega⟩
    obtain rfl : j = 2 := by omega
    refine ⟨σ, fun k => ?_, H⟩
    rw [fX4_digest_L345, if_pos (show (2 : Int32) ≤ nI 2 by decide)]
  | succ m ih =>
    intro n j σ H hj hn
    obtain ⟨n, rfl⟩ : ∃ n', n = n' + 1 := ⟨n - 1, by omega⟩
    have hg : ¬ (2 : Int32) ≤ nI j := fun q => absurd ((sp_le (a := 2) (b := j) (by omega) (by omega)).mp q) (by omega)
    obtain ⟨⟨hC, hH, hu, hcu, -, -, hM, hMf⟩, -⟩ := id H.1
    obtain ⟨σ1, z1, k1⟩ := sp_needlessBy (a := nI j) hC hH hu hcu hM hMf
    obtain ⟨σ2, z2, H2⟩ := ih n (j + 1) σ1 (H.M k1) (by omega) (by omega)
    refine ⟨σ2, fun k => ?_, H2⟩
    rw [fX4_digest_L345, if_neg hg, z1, tl_oe2]
    simp only [tl_be]
    rw [← z2 k, nI_succ]
    rfl
theorem dgM {σ0 c : tl_St} {he : Nat → Int32} {fl : Bool} {N h u t C : Nat} {σ : tl_St} (H0 : re_P σ0 c he fl N h u t C) (H : dg_K σ0 c he fl N h u t C σ) : ∃ σ', fX4_digest σ = some (dg_D σ0 c he fl N h t C, σ') ∧ dg_K σ0 c he fl N h u t C σ' := by
  have hN := H0.1.1.2.2.2.1
  have ht := H0.2.1.2.2.1
  have z1 : ∀ k, fX4_digest_L6 σ k 1000 17 0 = k (dg_s (dg_vC σ0) 17 8) := fun k => dgM_6 H0 H k 17 8 1000 0 (by omega) (by omega)
  obtain ⟨σ1, z2', H1⟩ := dgM_b H0 (dg_s (dg_vC σ0) 17 8) N 1000 0 σ H (by omega) (by omega)
  have z2 : ∀ k, fX4_digest_L33 k 1000 σ (dg_s (dg_vC σ0) 17 8) 0 = k σ1 (dg_B σ0 c he fl N h (dg_s (dg_vC σ0) 17 8) N) := z2'
  have z3 : ∀ k v, fX4_digest_L108 σ1 k 1000 v 0 = k (dg_s (fun j => fX4_chamberBy σ0 (nI j)) v 3) := fun k v => dgM_108 H0 H1 k v 3 1000 0 (by omega) (by omega)
  have z4 : ∀ k v, fX4_digest_L134 σ1 k 1000 v 0 = k (dg_W σ0 C v 2) := fun k v => dgM_w H1 k v 2 1000 0 (by omega) (by omega)
  have z5 : ∀ k v, fX4_digest_L189 σ1 k 1000 v 0 = k (dg_s (dg_vN σ0) v 2) := fun k v => dgM_189 H0 H1 k v 2 1000 0 (by omega) (by omega)
  have z6 : ∀ k v, fX4_digest_L215 σ1 k 1000 v 0 = k (dg_s (σ0 49) v (9 * t)) := fun k v => dgM_215 H0 H1 k v (9 * t) 1000 0 (by omega) (by omega)
  have z7 : ∀ k v, fX4_digest_L248 σ1 k 1000 v 0 = k (dg_s (dg_vT σ0) v 5) := fun k v => dgM_248 H0 H1 k v 5 1000 0 (by omega) (by omega)
  obtain ⟨⟨hC, hH, hu, hcu, -, -, hM1, hMf1⟩, -⟩ := id H1.1
  obtain ⟨σ2, z8, k2, s2⟩ := sp_looks hC hH hM1 hMf1
  have H2 := H1.M k2
  have z9 : ∀ k v, fX4_digest_L278 σ2 k 1000 v (-1) = k (dg_s (dg_vS c fl N h he) (31 * v + (c 0 0).toInt64) 41) := by
    intro k v
    have hst : fX4_stepBy σ2 (-1) = some (c 0 0) := by
      unfold fX4_stepBy
      rw [if_pos rfl, H2.1.1.2.2.2.2.2.2.1.1]
    rw [show (1000 : Nat) = 999 + 1 from rfl, fX4_digest_L278, if_neg (by decide), hst, tl_oe]
    simp only [tl_be]
    rw [show (-1 : Int32) + 1 = 0 from rfl]
    exact dgM_278 H0 H2 s2 k (31 * v + (c 0 0).toInt64) 41 999 0 (by omega) (by omega)
  obtain ⟨σ3, y1, k3⟩ := sp_aheadOf (T := 1) hC hH H2.1.1.2.2.2.2.2.2.1 H2.1.1.2.2.2.2.2.2.2 (by omega)
  have H3 := H2.M k3
  obtain ⟨σ4, y2, k4⟩ := sp_aheadOf (T := 2) hC hH H3.1.1.2.2.2.2.2.2.1 H3.1.1.2.2.2.2.2.2.2 (by omega)
  have H4 := H3.M k4
  obtain ⟨σ5, y3, k5⟩ := sp_aheadOf (T := 10) hC hH H4.1.1.2.2.2.2.2.2.1 H4.1.1.2.2.2.2.2.2.2 (by omega)
  have H5 := H4.M k5
  have y1' : fX4_aheadOf σ2 1 = some ((sp_A c N h fl he 1).2.2, σ3) := y1
  have y2' : fX4_aheadOf σ3 2 = some ((sp_A c N h fl he 2).2.2, σ4) := y2
  have y3' : fX4_aheadOf σ4 10 = some ((sp_A c N h fl he 10).2.2, σ5) := y3
  obtain ⟨σ6, z10', H6⟩ := dgM_345 (31 * (31 * (31 * dg_s (dg_vS c fl N h he) (31 * dg_s (dg_vT σ0) (dg_s (σ0 49) (dg_s (dg_vN σ0) (dg_W σ0 C (dg_s (fun j => fX4_chamberBy σ0 (nI j)) (dg_B σ0 c he fl N h (dg_s (dg_vC σ0) 17 8) N) 3) 2) 2) (9 * t)) 5 + (c 0 0).toInt64) 41 + (sp_A c N h fl he 1).2.2.toInt64) + (sp_A c N h fl he 2).2.2.toInt64) + (sp_A c N h fl he 10).2.2.toInt64) 2 1000 0 σ5 H5 (by omega) (by omega)
  refine ⟨σ6, ?_, H6⟩
  unfold fX4_digest
  simp only [tl_be]
  rw [z1, z2, z3, z4, z5, z6, z7, z8, tl_oe, z9, y1', tl_oe2, y2', tl_oe2, y3', tl_oe2]
  exact z10' _
theorem re_digest {σ : tl_St} (H : re_R σ) : ∃ r σ1 σ2, fX3_digest σ = some (r, σ1) ∧ fX4_digest σ1 = some (r, σ2) ∧ re_R σ2 := by
  obtain ⟨c, he, fl, N, h, u, t, C, H⟩ := H
  obtain ⟨σ1, z1, x1⟩ := dgX H
  have K0 : dg_K σ c he fl N h u t C σ := ⟨H, rfl, rfl, rfl, rfl, fun _ _ _ => rfl⟩
  obtain ⟨σ2, z2, K2⟩ := dgM H (K0.X x1)
  exact ⟨_, σ1, σ2, z1, z2, c, he, fl, N, h, u, t, C, K2.1⟩

