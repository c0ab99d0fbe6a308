theorem sp_pos1 (x : Int32) : 1 ≤ x ↔ 0 < x := by
  rw [Int32.le_iff_toInt_le, Int32.lt_iff_toInt_lt]
  have e1 : (1 : Int32).toInt = 1 := by decide
  have e0 : (0 : Int32).toInt = 0 := by decide
  rw [e1, e0]; omega
theorem sp_m1lt {n : Nat} (h : n < 2 ^ 31) : (-1 : Int32) < nI n := by
  rw [Int32.lt_iff_toInt_lt, nI_toInt h]
  have e1 : (-1 : Int32).toInt = -1 := by decide
  rw [e1]; omega
theorem sp_ne1 {n : Nat} (h : n < 2 ^ 31) : ¬ nI n = -1 := by
  intro e
  have h1 := sp_m1lt h
  rw [e] at h1
  exact absurd h1 (by decide)
theorem sp_T_cases (c : tl_St) (he : Nat → Int32) (ch : Int32) : ∀ i : Nat, ((sp_T c he ch i).1 = -1 ∧ (sp_T c he ch i).2 = -1) ∨ ∃ j, j < i ∧ sp_mT c he ch j ∧ sp_T c he ch i = (nI j, sp_lev c j (he j + 1))
  | 0 => Or.inl ⟨rfl, rfl⟩
  | i + 1 => by
    rw [sp_T]
    by_cases h : sp_mT c he ch i ∧ (sp_T c he ch i).2 < sp_lev c i (he i + 1)
    · rw [if_pos h]
      exact Or.inr ⟨i, by omega, h.1, rfl⟩
    · rw [if_neg h]
      rcases sp_T_cases c he ch i with h1 | ⟨j, h1, h2, h3⟩
      · exact Or.inl h1
      · exact Or.inr ⟨j, by omega, h2, h3⟩
theorem sp_G_cases (c : tl_St) (he : Nat → Int32) (ch : Int32) : ∀ i : Nat, ((sp_G c he ch i).1 = -1 ∧ (sp_G c he ch i).2 = 999999) ∨ ∃ j, j < i ∧ sp_mG c he ch j ∧ sp_G c he ch i = (nI j, sp_lev c j (he j - 1))
  | 0 => Or.inl ⟨rfl, rfl⟩
  | i + 1 => by
    rw [sp_G]
    by_cases h : sp_mG c he ch i ∧ sp_lev c i (he i - 1) < (sp_G c he ch i).2
    · rw [if_pos h]
      exact Or.inr ⟨i, by omega, h.1, rfl⟩
    · rw [if_neg h]
      rcases sp_G_cases c he ch i with h1 | ⟨j, h1, h2, h3⟩
      · exact Or.inl h1
      · exact Or.inr ⟨j, by omega, h2, h3⟩
theorem sp_levelX {σ c : tl_St} {he : Nat → Int32} {w N h i : Nat} (hC : sp_C c N h) (hR : sp_RX w σ c he N) (hi : i < N) {q : Nat} (hq : q ≤ 61) : fX2_levelHolding σ w (nI i) (nI q) = some (sp_lev c i (nI q)) := by
  have hN := hC.2.2.2.1
  have hin : tl_in (nI i) 4 := sp_in (by omega) (by decide)
  obtain ⟨e1, e2, e3, e4, e5, e6⟩ := hR.2.2.2 i hi
  have hcl : (nI i).toNatClampNeg = i := sp_cl (by omega)
  unfold fX2_levelHolding
  simp only [if_pos hin, hcl, e1, e4]
  rw [sp_lev_x hC hi hq]
theorem sp_give_L {σ c : tl_St} {he : Nat → Int32} {w N h : Nat} {ch : Int32} (hC : sp_C c N h) (hH : sp_H c N he) (hR : sp_RX w σ c he N) (k2 : Int32 → Option Int32) : ∀ (n i : Nat) (x4 : Int32), i ≤ N → N - i < n → (¬ (sp_G c he ch i).1 = -1 → x4 = (sp_G c he ch i).2) → fX2_basinToGive_L7 σ w (6 * ch) k2 n (sp_G c he ch i).1 x4 (nI i) = k2 (sp_G c he ch N).1 := by
  have hN := hC.2.2.2.1
  intro n
  induction n with
  | zero => intro i x4 h1 h2; omega
  | succ n ih =>
    intro i x4 h1 h2 hx4
    rw [fX2_basinToGive_L7, hR.2.1]
    by_cases hi : i = N
    · subst hi
      rw [if_pos ((sp_le (by omega) (by omega)).mpr (Nat.le_refl _))]
    · have hi : i < N := by omega
      have hin : tl_in (nI i) 4 := sp_in (by omega) (by decide)
      obtain ⟨e1, e2, e3, e4, e5, e6⟩ := hR.2.2.2 i hi
      obtain ⟨r, q, hr, er, eq, hqr⟩ := hH i hi
      have hcl : (nI i).toNatClampNeg = i := sp_cl (by omega)
      have ih' := ih (i + 1)
      rw [nI_succ, sp_G] at ih'
      rw [if_neg (fun q => absurd ((sp_le (by omega) (by omega)).mp q) (by omega))]
      simp only [if_pos hin, hcl, e6, fX2_isOut, hR.2.2.1, tl_bnd, sp_pos1]
      by_cases hu : ((c 0 2 >>> (nI i &&& 31)) &&& 1) = 0
      · by_cases h3 : 0 < he i
        · have hq1 : 1 ≤ q := by
            rw [eq] at h3
            have := (sp_lt (a := 0) (b := q) (by omega) (by omega)).mp (by rw [nI_0]; exact h3)
            omega
          have hs : he i - 1 = nI (q - 1) := by
            rw [eq, show (1 : Int32) = nI 1 from rfl, pk_sub hq1]
          have hlev := sp_levelX hC hR hi (q := q - 1) (by omega)
          rw [← hs] at hlev
          simp only [hlev, tl_o1]
          by_cases h4 : 6 * ch ≤ sp_lev c i (he i - 1)
          · have h4' : ¬ sp_lev c i (he i - 1) < 6 * ch := Int32.not_lt.mpr h4
            have hmG : sp_mG c he ch i := ⟨hu, h3, h4⟩
            rcases sp_G_cases c he ch i with ⟨hb, hl⟩ | ⟨j, hj, -, hb⟩
            · have h5 : sp_lev c i (he i - 1) < (sp_G c he ch i).2 := by
                obtain ⟨v, hv, ev⟩ := sp_lev_eq hC hi (q := q - 1) (by omega)
                rw [hl, hs, ev, show (999999 : Int32) = nI 999999 from rfl]
                exact (sp_lt (by omega) (by omega)).mpr (by omega)
              have ih2 := ih' (sp_lev c i (he i - 1)) (by omega) (by omega)
              simp only [if_pos (show sp_mG c he ch i ∧ sp_lev c i (he i - 1) < (sp_G c he ch i).2 from ⟨hmG, h5⟩)] at ih2
              simp [hu, h3, h4', hb]
              exact ih2 (fun _ => trivial)
            · have hb1 : ¬ (sp_G c he ch i).1 = -1 := by rw [hb]; exact sp_ne1 (by omega)
              have ex4 := hx4 hb1
              by_cases h5 : sp_lev c i (he i - 1) < (sp_G c he ch i).2
              · have h5' : ¬ x4 ≤ sp_lev c i (he i - 1) := by rw [ex4]; exact Int32.not_le.mpr h5
                have ih2 := ih' (sp_lev c i (he i - 1)) (by omega) (by omega)
                simp only [if_pos (show sp_mG c he ch i ∧ sp_lev c i (he i - 1) < (sp_G c he ch i).2 from ⟨hmG, h5⟩)] at ih2
                simp [hu, h3, h4', hb1, h5']
                exact ih2 (fun _ => trivial)
              · have h5' : x4 ≤ sp_lev c i (he i - 1) := by rw [ex4]; exact Int32.not_lt.mp h5
                have ih2 := ih' x4 (by omega) (by omega)
                simp only [if_neg (show ¬ (sp_mG c he ch i ∧ sp_lev c i (he i - 1) < (sp_G c he ch i).2) from fun z => h5 z.2)] at ih2
                simp [hu, h3, h4', hb1, h5']
                exact ih2 hx4
          · have h4' : sp_lev c i (he i - 1) < 6 * ch := Int32.not_le.mp h4
            have ih2 := ih' x4 (by omega) (by omega)
            simp only [if_neg (show ¬ (sp_mG c he ch i ∧ sp_lev c i (he i - 1) < (sp_G c he ch i).2) from fun z => h4 z.1.2.2)] at ih2
            simp [hu, h3, h4']
            exact ih2 hx4
        · have ih2 := ih' x4 (by omega) (by omega)
          simp only [if_neg (show ¬ (sp_mG c he ch i ∧ sp_lev c i (he i - 1) < (sp_G c he ch i).2) from fun z => h3 z.1.2.1)] at ih2
          simp [hu, h3]
          exact ih2 hx4
      · have ih2 := ih' x4 (by omega) (by omega)
        simp only [if_neg (show ¬ (sp_mG c he ch i ∧ sp_lev c i (he i - 1) < (sp_G c he ch i).2) from fun z => hu z.1.1)] at ih2
        simp [hu]
        exact ih2 hx4
theorem sp_give {σ c : tl_St} {he : Nat → Int32} {w N h : Nat} {ch : Int32} (hC : sp_C c N h) (hH : sp_H c N he) (hR : sp_RX w σ c he N) : fX2_basinToGive σ w (6 * ch) = some (sp_G c he ch N).1 := by
  have hN := hC.2.2.2.1
  have h0 := sp_give_L (ch := ch) hC hH hR (fun x1 => some x1) 1000 0 0 (by omega) (by omega) (fun z => absurd rfl z)
  rw [sp_G, nI_0] at h0
  unfold fX2_basinToGive
  simp only [tl_be]
  exact h0
theorem sp_take_L {σ c : tl_St} {he : Nat → Int32} {w N h : Nat} {ch : Int32} (hC : sp_C c N h) (hH : sp_H c N he) (hR : sp_RX w σ c he N) (k2 : Int32 → Option Int32) : ∀ (n i : Nat) (x4 : Int32), i ≤ N → N - i < n → (¬ (sp_T c he ch i).1 = -1 → x4 = (sp_T c he ch i).2) → fX2_basinToTake_L7 σ w (6 * ch) k2 n (sp_T c he ch i).1 x4 (nI i) = k2 (sp_T c he ch N).1 := by
  have hN := hC.2.2.2.1
  intro n
  induction n with
  | zero => intro i x4 h1 h2; omega
  | succ n ih =>
    intro i x4 h1 h2 hx4
    rw [fX2_basinToTake_L7, hR.2.1]
    by_cases hi : i = N
    · subst hi
      rw [if_pos ((sp_le (by omega) (by omega)).mpr (Nat.le_refl _))]
    · have hi : i < N := by omega
      have hin : tl_in (nI i) 4 := sp_in (by omega) (by decide)
      obtain ⟨e1, e2, e3, e4, e5, e6⟩ := hR.2.2.2 i hi
      obtain ⟨r, q, hr, er, eq, hqr⟩ := hH i hi
      have hcl : (nI i).toNatClampNeg = i := sp_cl (by omega)
      have ih' := ih (i + 1)
      rw [nI_succ, sp_T] at ih'
      rw [if_neg (fun q => absurd ((sp_le (by omega) (by omega)).mp q) (by omega))]
      have hs : he i + 1 = nI (q + 1) := by rw [eq, nI_1]
      have hlev := sp_levelX hC hR hi (q := q + 1) (by omega)
      rw [← hs] at hlev
      simp only [if_pos hin, hcl, e6, e2, fX2_isOut, hR.2.2.1, tl_bnd, hlev, tl_o1]
      by_cases hu : ((c 0 2 >>> (nI i &&& 31)) &&& 1) = 0
      · by_cases h3 : he i < c 2 i
        · by_cases h4 : sp_lev c i (he i + 1) ≤ 6 * ch
          · have h4' : ¬ 6 * ch < sp_lev c i (he i + 1) := Int32.not_lt.mpr h4
            have hmT : sp_mT c he ch i := ⟨hu, h3, h4⟩
            rcases sp_T_cases c he ch i with ⟨hb, hl⟩ | ⟨j, hj, -, hb⟩
            · have h5 : (sp_T c he ch i).2 < sp_lev c i (he i + 1) := by
                obtain ⟨v, hv, ev⟩ := sp_lev_eq hC hi (q := q + 1) (by omega)
                rw [hl, hs, ev]
                exact sp_m1lt (by omega)
              have ih2 := ih' (sp_lev c i (he i + 1)) (by omega) (by omega)
              simp only [if_pos (show sp_mT c he ch i ∧ (sp_T c he ch i).2 < sp_lev c i (he i + 1) from ⟨hmT, h5⟩)] at ih2
              simp [hu, h3, h4', hb]
              exact ih2 (fun _ => trivial)
            · have hb1 : ¬ (sp_T c he ch i).1 = -1 := by rw [hb]; exact sp_ne1 (by omega)
              have ex4 := hx4 hb1
              by_cases h5 : (sp_T c he ch i).2 < sp_lev c i (he i + 1)
              · have h5' : ¬ sp_lev c i (he i + 1) ≤ x4 := by rw [ex4]; exact Int32.not_le.mpr h5
                have ih2 := ih' (sp_lev c i (he i + 1)) (by omega) (by omega)
                simp only [if_pos (show sp_mT c he ch i ∧ (sp_T c he ch i).2 < sp_lev c i (he i + 1) from ⟨hmT, h5⟩)] at ih2
                simp [hu, h3, h4', hb1, h5']
                exact ih2 (fun _ => trivial)
              · have h5' : sp_lev c i (he i + 1) ≤ x4 := by rw [ex4]; exact Int32.not_lt.mp h5
                have ih2 := ih' x4 (by omega) (by omega)
                simp only [if_neg (show ¬ (sp_mT c he ch i ∧ (sp_T c he ch i).2 < sp_lev c i (he i + 1)) from fun z => h5 z.2)] at ih2
                simp [hu, h3, h4', hb1, h5']
                exact ih2 hx4
          · have h4' : 6 * ch < sp_lev c i (he i + 1) := Int32.not_le.mp h4
            have ih2 := ih' x4 (by omega) (by omega)
            simp only [if_neg (show ¬ (sp_mT c he ch i ∧ (sp_T c he ch i).2 < sp_lev c i (he i + 1)) from fun z => h4 z.1.2.2)] at ih2
            simp [hu, h3, h4']
            exact ih2 hx4
        · have ih2 := ih' x4 (by omega) (by omega)
          simp only [if_neg (show ¬ (sp_mT c he ch i ∧ (sp_T c he ch i).2 < sp_lev c i (he i + 1)) from fun z => h3 z.1.2.1)] at ih2
          simp [hu, h3]
          exact ih2 hx4
      · have ih2 := ih' x4 (by omega) (by omega)
        simp only [if_neg (show ¬ (sp_mT c he ch i ∧ (sp_T c he ch i).2 < sp_lev c i (he i + 1)) from fun z => hu z.1.1)] at ih2
        simp [hu]
        exact ih2 hx4
theorem sp_take {σ c : tl_St} {he : Nat → Int32} {w N h : Nat} {ch : Int32} (hC : sp_C c N h) (hH : sp_H c N he) (hR : sp_RX w σ c he N) : fX2_basinToTake σ w (6 * ch) = some (sp_T c he ch N).1 := by
  have hN := hC.2.2.2.1
  have h0 := sp_take_L (ch := ch) hC hH hR (fun x1 => some x1) 1000 0 0 (by omega) (by omega) (fun z => absurd rfl z)
  rw [sp_T, nI_0] at h0
  unfold fX2_basinToTake
  simp only [tl_be]
  exact h0
