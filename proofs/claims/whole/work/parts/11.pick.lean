def sp_RM (σ c : tl_St) (he : Nat → Int32) (N : Nat) : Prop := σ 34 5 = c 0 0 ∧ σ 34 7 = nI N ∧ σ 34 13 = c 0 2 ∧ ∀ i, i < N → σ 39 i = c 1 i ∧ σ 40 i = c 2 i ∧ σ 41 i = c 3 i ∧ σ 42 i = c 4 i ∧ σ 43 i = he i
def sp_RX (w : Nat) (σ c : tl_St) (he : Nat → Int32) (N : Nat) : Prop := σ w 0 = c 0 0 ∧ σ w 2 = nI N ∧ σ w 3 = c 0 2 ∧ ∀ i, i < N → σ (w + 1) i = c 1 i ∧ σ (w + 2) i = c 2 i ∧ σ (w + 3) i = c 3 i ∧ σ (w + 4) i = sp_rise (c 3 i) ∧ σ (w + 5) i = c 4 i ∧ σ (w + 6) i = he i
theorem sp_levelOf {σ c : tl_St} {he : Nat → Int32} {N h i : Nat} (hC : sp_C c N h) (hR : sp_RM σ c he N) (hi : i < N) (s : Int32) : fX4_levelOf σ (nI i) s = some (sp_lev c i s) := by
  have hN := hC.2.2.2.1
  have hin : tl_in (nI i) 4 := sp_in (by omega) (by decide)
  obtain ⟨e1, e2, e3, e4, e5⟩ := hR.2.2.2 i hi
  unfold fX4_levelOf
  rw [if_pos hin, if_pos hin, sp_cl (by omega), e3, if_pos (sp_wide0 hC hi), e1]
  rfl
theorem sp_goesTo_L {σ c : tl_St} {he : Nat → Int32} {N h : Nat} {ch : Int32} (hC : sp_C c N h) (hR : sp_RM σ c he N) (k2 : Int32 → Option Int32) : ∀ n i : Nat, i ≤ N → N - i < n → fX4_goesTo_L7 σ ch k2 n (sp_T c he ch i).1 (sp_T c he ch i).2 (nI i) = k2 (sp_T c he ch N).1 := by
  have hN := hC.2.2.2.1
  intro n
  induction n with
  | zero => intro i h1 h2; omega
  | succ n ih =>
    intro i h1 h2
    rw [fX4_goesTo_L7, hR.2.1]
    by_cases hi : i = N
    · subst hi
      rw [if_pos ((sp_le (by omega) (by omega)).mpr (Nat.le_refl _))]
    · have hi : i < N := by omega
      have hin : tl_in (nI i) 4 := sp_in (by omega) (by decide)
      obtain ⟨e1, e2, e3, e4, e5⟩ := hR.2.2.2 i hi
      have ih' := ih (i + 1) (by omega) (by omega)
      rw [nI_succ, sp_T] at ih'
      have hcl : (nI i).toNatClampNeg = i := sp_cl (by omega)
      have hlev := sp_levelOf hC hR hi
      rw [if_neg (fun q => absurd ((sp_le (by omega) (by omega)).mp q) (by omega))]
      simp only [if_pos hin, hcl, e5, e2, hR.2.2.1, hlev, tl_o1, tl_bnd, fX4_isIn, fX4_greater]
      rcases sp_bit (c 0 2 >>> (nI i &&& 31)) with hu | hu
      · by_cases h3 : he i < c 2 i
        · have h3' : ¬ c 2 i ≤ he i := Int32.not_le.mpr h3
          by_cases h4 : sp_lev c i (he i + 1) ≤ 6 * ch
          · have h4' : ¬ 6 * ch < sp_lev c i (he i + 1) := Int32.not_lt.mpr h4
            by_cases h5 : (sp_T c he ch i).2 < sp_lev c i (he i + 1)
            · have h5' : ¬ sp_lev c i (he i + 1) ≤ (sp_T c he ch i).2 := Int32.not_le.mpr h5
              simp [sp_mT, sp_mG, sp_use, hu, h3, h3', h4, h4', h5, h5'] at ih' ⊢
              exact ih'
            · have h5' : sp_lev c i (he i + 1) ≤ (sp_T c he ch i).2 := Int32.not_lt.mp h5
              simp [sp_mT, sp_mG, sp_use, hu, h3, h3', h4, h4', h5, h5'] at ih' ⊢
              exact ih'
          · have h4' : 6 * ch < sp_lev c i (he i + 1) := Int32.not_le.mp h4
            simp [sp_mT, sp_mG, sp_use, hu, h3, h3', h4, h4'] at ih' ⊢
            exact ih'
        · have h3' : c 2 i ≤ he i := Int32.not_lt.mp h3
          simp [sp_mT, sp_mG, sp_use, hu, h3, h3'] at ih' ⊢
          exact ih'
      · simp [sp_mT, sp_mG, sp_use, hu] at ih' ⊢
        exact ih'
theorem sp_goesTo {σ c : tl_St} {he : Nat → Int32} {N h : Nat} {ch : Int32} (hC : sp_C c N h) (hR : sp_RM σ c he N) : fX4_goesTo σ ch = some (sp_T c he ch N).1 := by
  have hN := hC.2.2.2.1
  have h0 := sp_goesTo_L (ch := ch) hC hR (fun x1 => some x1) 1000 0 (by omega) (by omega)
  rw [sp_T, nI_0] at h0
  unfold fX4_goesTo
  simp only [tl_be]
  exact h0
theorem sp_comesFrom_L {σ c : tl_St} {he : Nat → Int32} {N h : Nat} {ch : Int32} (hC : sp_C c N h) (hR : sp_RM σ c he N) (k2 : Int32 → Option Int32) : ∀ n i : Nat, i ≤ N → N - i < n → fX4_comesFrom_L8 σ ch k2 n (sp_G c he ch i).1 (sp_G c he ch i).2 (nI i) = k2 (sp_G c he ch N).1 := by
  have hN := hC.2.2.2.1
  intro n
  induction n with
  | zero => intro i h1 h2; omega
  | succ n ih =>
    intro i h1 h2
    rw [fX4_comesFrom_L8, hR.2.1]
    by_cases hi : i = N
    · subst hi
      rw [if_pos ((sp_le (by omega) (by omega)).mpr (Nat.le_refl _))]
    · have hi : i < N := by omega
      have hin : tl_in (nI i) 4 := sp_in (by omega) (by decide)
      obtain ⟨e1, e2, e3, e4, e5⟩ := hR.2.2.2 i hi
      have ih' := ih (i + 1) (by omega) (by omega)
      rw [nI_succ, sp_G] at ih'
      have hcl : (nI i).toNatClampNeg = i := sp_cl (by omega)
      have hlev := sp_levelOf hC hR hi
      rw [if_neg (fun q => absurd ((sp_le (by omega) (by omega)).mp q) (by omega))]
      simp only [if_pos hin, hcl, e5, hR.2.2.1, hlev, tl_o1, tl_bnd, fX4_isIn, fX4_lesser]
      rcases sp_bit (c 0 2 >>> (nI i &&& 31)) with hu | hu
      · by_cases h3 : 0 < he i
        · have h3' : ¬ he i ≤ 0 := Int32.not_le.mpr h3
          by_cases h4 : 6 * ch ≤ sp_lev c i (he i - 1)
          · have h4' : ¬ sp_lev c i (he i - 1) < 6 * ch := Int32.not_lt.mpr h4
            by_cases h5 : sp_lev c i (he i - 1) < (sp_G c he ch i).2
            · have h5' : ¬ (sp_G c he ch i).2 ≤ sp_lev c i (he i - 1) := Int32.not_le.mpr h5
              simp [sp_mT, sp_mG, sp_use, hu, h3, h3', h4, h4', h5, h5'] at ih' ⊢
              exact ih'
            · have h5' : (sp_G c he ch i).2 ≤ sp_lev c i (he i - 1) := Int32.not_lt.mp h5
              simp [sp_mT, sp_mG, sp_use, hu, h3, h3', h4, h4', h5, h5'] at ih' ⊢
              exact ih'
          · have h4' : sp_lev c i (he i - 1) < 6 * ch := Int32.not_le.mp h4
            simp [sp_mT, sp_mG, sp_use, hu, h3, h3', h4, h4'] at ih' ⊢
            exact ih'
        · have h3' : he i ≤ 0 := Int32.not_lt.mp h3
          simp [sp_mT, sp_mG, sp_use, hu, h3, h3'] at ih' ⊢
          exact ih'
      · simp [sp_mT, sp_mG, sp_use, hu] at ih' ⊢
        exact ih'
theorem sp_comesFrom {σ c : tl_St} {he : Nat → Int32} {N h : Nat} {ch : Int32} (hC : sp_C c N h) (hR : sp_RM σ c he N) : fX4_comesFrom σ ch = some (sp_G c he ch N).1 := by
  have hN := hC.2.2.2.1
  have h0 := sp_comesFrom_L (ch := ch) hC hR (fun x1 => some x1) 1000 0 (by omega) (by omega)
  rw [sp_G, nI_0] at h0
  unfold fX4_comesFrom
  simp only [tl_be]
  exact h0
