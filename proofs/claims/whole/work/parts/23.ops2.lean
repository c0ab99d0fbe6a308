theorem re_10 : ¬ (1 : Int32) = 0 := by decide
/-! chamber, rule, wipe, ledger -/
theorem re_chamber {σ : tl_St} (H : re_R σ) (a : Int32) : fX3_chamber σ a = fX4_chamber σ a := by
  obtain ⟨c, he, fl, N, h, u, t, C, H⟩ := H
  obtain ⟨⟨hC, hH, hu, hcu, hX, hXf, hM, hMf⟩, Hl, Hb, Hs⟩ := id H
  have HR : re_R σ := ⟨c, he, fl, N, h, u, t, C, H⟩
  have hN := hC.2.2.2.1
  unfold fX3_chamber fX4_chamber fX4_chamberBy
  simp only [tl_be, re_i0_2, hXf, hX.1, hM.1, hMf]
  by_cases h0 : a = 0
  · subst h0; cases fl <;> rfl
  · by_cases h1 : a = 1
    · subst h1; cases fl <;> rfl
    · by_cases h2 : a = 2
      · subst h2; cases fl <;> rfl
      · rw [if_neg h0, if_neg h1, if_neg h2]
        by_cases h3 : a < 0
        · rw [if_pos h3, if_pos rfl]
        · rw [if_neg h3]
          by_cases h4 : 2 < a
          · rw [if_pos h4, if_pos rfl]
          · obtain ⟨j, -, hj, ej⟩ := re_rng (l := 0) (m := 2) rfl rfl (by omega) (by omega) h3 h4
            rcases (show j = 0 ∨ j = 1 ∨ j = 2 by omega) with rfl | rfl | rfl
            · exact absurd ej h0
            · exact absurd ej h1
            · exact absurd ej h2
theorem re_two (σ : tl_St) (a : Int32) : fX4_isTwo σ a = if a = 0 then 1 else if a = 1 then 1 else 0 := by
  unfold fX4_isTwo
  simp only [tl_be, re_i0_1]
  by_cases h0 : a = 0
  · subst h0; rfl
  · by_cases h1 : a = 1
    · subst h1; rfl
    · rw [if_neg h0, if_neg h1]
      by_cases h3 : a < 0
      · rw [if_pos h3]
      · rw [if_neg h3]
        by_cases h4 : 1 < a
        · rw [if_pos h4]
        · obtain ⟨j, -, hj, ej⟩ := re_rng (l := 0) (m := 1) rfl rfl (by omega) (by omega) h3 h4
          rcases (show j = 0 ∨ j = 1 by omega) with rfl | rfl
          · exact absurd ej h0
          · exact absurd ej h1
theorem re_rule {σ : tl_St} (H : re_R σ) (a : Int32) : ∃ r σ1 σ2, fX3_rule σ a = (r, σ1) ∧ fX4_rule σ1 a = (r, σ2) ∧ re_R σ2 := by
  obtain ⟨c, he, fl, N, h, u, t, C, H⟩ := H
  obtain ⟨⟨hC, hH, hu, hcu, hX, hXf, hM, hMf⟩, Hl, Hb, Hs⟩ := id H
  have HR : re_R σ := ⟨c, he, fl, N, h, u, t, C, H⟩
  have hN := hC.2.2.2.1
  obtain ⟨l1, l2, l3, l4, l5, l6, l7, l8, l9, l10⟩ := id Hl
  have key : a = 0 ∨ a = 1 → ∃ r σ1 σ2, fX3_rule σ a = (r, σ1) ∧ fX4_rule σ1 a = (r, σ2) ∧ re_R σ2 := by
    intro ha
    refine ⟨σ 0 11, tl_set σ 0 11 a, tl_set (tl_set σ 0 11 a) 34 17 a, ?_, ?_, ?_⟩
    · unfold fX3_rule
      simp only [tl_be]
      rcases ha with rfl | rfl <;> rfl
    · unfold fX4_rule
      simp only [tl_be, re_two]
      rw [sp_n (d := 34) (by decide), l9]
      rcases ha with rfl | rfl <;> rfl
    · refine ⟨c, he, fl, N, h, u, t, C, H.1.cg ?_ ?_ ?_ ?_ ?_, ?_, Hb.cg ?_ ?_ ?_ ?_ ?_, Hs.cg ?_ ?_⟩
      all_goals first | (intros; repeat (first | rfl | rw [sp_n (by omega)] | rw [sp_sn (by omega)])) | skip
      refine ⟨?_, ?_, l3, ?_, ?_, ?_, ?_, ?_, ?_, ?_⟩
      all_goals (simp [tl_set, tl_setC, upd]; try assumption)
  by_cases h0 : a = 0
  · exact key (Or.inl h0)
  · by_cases h1 : a = 1
    · exact key (Or.inr h1)
    · refine ⟨-2, σ, σ, ?_, ?_, HR⟩
      · unfold fX3_rule
        simp only [tl_be]
        rw [if_neg h0, if_neg h1]
      · unfold fX4_rule
        simp only [tl_be, re_two]
        rw [if_neg h0, if_neg h1, if_pos rfl]
theorem re_wipe {σ : tl_St} (H : re_R σ) : ∃ r σ1 σ2, fX3_wipe σ = (r, σ1) ∧ fX4_wipe σ1 = (r, σ2) ∧ re_R σ2 := by
  obtain ⟨c, he, fl, N, h, u, t, C, H⟩ := H
  obtain ⟨⟨hC, hH, hu, hcu, hX, hXf, hM, hMf⟩, Hl, Hb, Hs⟩ := id H
  have HR : re_R σ := ⟨c, he, fl, N, h, u, t, C, H⟩
  have hN := hC.2.2.2.1
  obtain ⟨l1, l2, l3, l4, l5, l6, l7, l8, l9, l10⟩ := id Hl
  refine ⟨nI t, tl_set σ 0 5 0, tl_set (tl_set σ 0 5 0) 34 25 0, ?_, ?_, ?_⟩
  · unfold fX3_wipe
    simp only [tl_be, l1]
  · unfold fX4_wipe
    simp only [tl_be]
    rw [sp_n (d := 34) (by decide), l2]
  · refine ⟨c, he, fl, N, h, u, 0, C, H.1.cg ?_ ?_ ?_ ?_ ?_, ?_, Hb.cg ?_ ?_ ?_ ?_ ?_, Hs.cg ?_ ?_⟩
    all_goals first | (intros; repeat (first | rfl | rw [sp_n (by omega)] | rw [sp_sn (by omega)])) | skip
    refine ⟨?_, ?_, by omega, ?_, ?_, ?_, ?_, ?_, ?_, ?_⟩
    all_goals (simp [tl_set, tl_setC, upd, nI_0]; try assumption)
theorem re_ledger {σ : tl_St} (H : re_R σ) (a b : Int32) : ∃ r, fX3_ledger σ a b = some r ∧ fX4_ledger σ a b = some r := by
  obtain ⟨c, he, fl, N, h, u, t, C, H⟩ := H
  obtain ⟨⟨hC, hH, hu, hcu, hX, hXf, hM, hMf⟩, Hl, Hb, Hs⟩ := id H
  have HR : re_R σ := ⟨c, he, fl, N, h, u, t, C, H⟩
  have hN := hC.2.2.2.1
  obtain ⟨l1, l2, l3, l4, l5, l6, l7, l8, l9, l10⟩ := id Hl
  unfold fX3_ledger fX4_ledger
  simp only [tl_be, l1, l2, l4, re_i0_8]
  rw [show (0 : Int64) = (0 : Int32).toInt64 from by decide, re_in]
  by_cases h1 : a < 0
  · exact ⟨-2, by rw [if_pos h1], by rw [if_pos h1, if_pos rfl]⟩
  · rw [if_neg h1]
    by_cases h2 : nI t ≤ a
    · exact ⟨-2, by rw [if_pos h2], by rw [if_neg h1, if_pos ((re_hi t (by omega) a h1).mpr h2), if_pos rfl]⟩
    · rw [if_neg h2, if_neg h1, if_neg (fun z => h2 ((re_hi t (by omega) a h1).mp z)), if_neg re_10]
      by_cases h3 : b < 0
      · exact ⟨-2, by rw [if_pos h3], by rw [if_pos h3, if_pos rfl]⟩
      · rw [if_neg h3, if_neg h3]
        by_cases h4 : 8 < b
        · have h4' : ¬ b < 9 := by
            intro q
            obtain ⟨j, hj, rfl⟩ := nI_of h3
            have h5 := (sp_lt (a := 8) (by omega) (by omega)).mp h4
            have h6 := (sp_lt (b := 9) (by omega) (by omega)).mp q
            omega
          exact ⟨-2, by rw [if_neg h4'], by rw [if_pos h4, if_pos rfl]⟩
        · obtain ⟨j, -, hj, rfl⟩ := re_rng (l := 0) (m := 8) rfl rfl (by omega) (by omega) h3 h4
          obtain ⟨i, hi, rfl⟩ := nI_of h1
          have hit : i < t := by
            rcases Nat.lt_or_ge i t with q | q
            · exact q
            · exact absurd ((sp_le (by omega) (by omega)).mpr q) h2
          have h9 : nI j < 9 := (sp_lt (a := j) (b := 9) (by omega) (by omega)).mpr (by omega)
          have e1 : nI i * 9 + nI j = nI (9 * i + j) := by
            rw [show (9 : Int32) = nI 9 from rfl, pk_mul, nI_add]; congr 1; omega
          have e2 : 9 * nI i + nI j = nI (9 * i + j) := by
            rw [show (9 : Int32) = nI 9 from rfl, pk_mul, nI_add]
          simp only [if_pos h9, if_neg h4, if_neg re_10, e1, e2]
          rw [if_pos (sp_in (by omega) (by decide))]
          exact ⟨_, rfl, rfl⟩

