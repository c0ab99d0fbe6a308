/-! sheets -/
theorem re_sh (a : Int32) : ((∀ σ, fX3_isSheet σ a = 0) ∧ ∀ σ, fX4_isSheet σ a = 0) ∨ ∃ s, s < 4 ∧ a = nI s ∧ (∀ σ, fX3_isSheet σ a = 1) ∧ ∀ σ, fX4_isSheet σ a = 1 := by
  unfold fX3_isSheet fX4_isSheet
  simp only [tl_be, re_i0_3]
  by_cases h0 : a < 0
  · simp [h0]
  · have e := re_hi 4 (by omega) a h0
    rw [show nI 4 - 1 = 3 from by decide, show nI 4 = 4 from rfl] at e
    by_cases h1 : 3 < a
    · simp [h0, h1, e.mp h1]
    · have h1' : ¬ 4 ≤ a := fun z => h1 (e.mpr z)
      obtain ⟨s, -, hs, rfl⟩ := re_rng (l := 0) (m := 3) rfl rfl (by omega) (by omega) h0 h1
      exact Or.inr ⟨s, by omega, rfl, by simp [h0, h1'], by simp [h0, h1]⟩
theorem re_fm (a : Int32) : ((∀ σ, fX3_isForm σ a = 0) ∧ ∀ σ, fX4_in σ a.toInt64 0 2 = 0) ∨ ∃ f, f < 3 ∧ a = nI f ∧ (∀ σ, fX3_isForm σ a = 1) ∧ ∀ σ, fX4_in σ a.toInt64 0 2 = 1 := by
  unfold fX3_isForm
  simp only [tl_be, re_i0_2]
  by_cases h0 : a < 0
  · simp [h0]
  · have e := re_hi 3 (by omega) a h0
    rw [show nI 3 - 1 = 2 from by decide, show nI 3 = 3 from rfl] at e
    by_cases h1 : 2 < a
    · simp [h0, h1, e.mp h1]
    · have h1' : ¬ 3 ≤ a := fun z => h1 (e.mpr z)
      obtain ⟨s, -, hs, rfl⟩ := re_rng (l := 0) (m := 2) rfl rfl (by omega) (by omega) h0 h1
      exact Or.inr ⟨s, by omega, rfl, by simp [h0, h1'], by simp [h0, h1]⟩
theorem re_s_upd {σ σ' : tl_St} {s : Nat} (hs : s < 4) (H : re_s σ) (h1 : ∀ d, 24 < d → d < 33 → d ≠ 25 + 2 * s → d ≠ 25 + 2 * s + 1 → σ' d = σ d) (h2 : ∀ k, k ≠ s → σ' 35 k = σ 35 k) (h3 : ∀ k, k ≠ s → σ' 36 k = σ 36 k) (h4 : ∀ j, j < 60 * s ∨ 60 * s + 60 ≤ j → σ' 37 j = σ 37 j) (hz : ∃ z, re_s1 σ' s z) : re_s σ' := by
  intro k hk
  by_cases hks : k = s
  · subst hks; exact hz
  · obtain ⟨z, a1, a2, a3, a4, a5⟩ := H k hk
    refine ⟨z, a1, ?_, ?_, ?_, fun i hi => ?_⟩
    · rw [h1 _ (by omega) (by omega) (by omega) (by omega)]; exact a2
    · rw [h3 k hks]; exact a3
    · rw [h1 (25 + 2 * k) (by omega) (by omega) (by omega) (by omega), h2 k hks]; exact a4
    · rw [h1 (25 + 2 * k + 1) (by omega) (by omega) (by omega) (by omega), h4 _ (by omega)]; exact a5 i hi
theorem re_find {σ : tl_St} (H : re_R σ) (k : Int32) : re_R (tl_set (tl_set σ 0 12 k) 34 4 k) := by
  obtain ⟨c, he, fl, N, h, u, t, C, H⟩ := H
  obtain ⟨⟨hC, hH, hu, hcu, hX, hXf, hM, hMf⟩, Hl, Hb, Hs⟩ := id H
  have HR : re_R σ := ⟨c, he, fl, N, h, u, t, C, H⟩
  have hN := hC.2.2.2.1
  obtain ⟨l1, l2, l3, l4, l5, l6, l7, l8, l9, l10⟩ := id Hl
  refine ⟨c, he, fl, N, h, u, t, C, H.1.cg ?_ ?_ ?_ ?_ ?_, ?_, Hb.cg ?_ ?_ ?_ ?_ ?_, Hs.cg ?_ ?_⟩
  all_goals first | (intros; (repeat (first | rfl | rw [sp_n (by omega)] | rw [sp_sn (by omega)])); done) | skip
  refine ⟨?_, ?_, l3, ?_, ?_, ?_, ?_, ?_, ?_, ?_⟩
  all_goals (simp [tl_set, tl_setC, upd]; try assumption)
theorem re_fX (σ : tl_St) (k : Int32) : fX3_found σ k = (-10 - k, tl_set σ 0 12 k) := by
  unfold fX3_found; simp only [tl_be]
theorem re_fM (σ : tl_St) (k : Int32) : fX4_finds σ k = (-10 - k, tl_set σ 34 4 k) := by
  unfold fX4_finds; simp only [tl_be]
theorem re_zero_ML {s z : Nat} (hs : s < 4) (hz : z ≤ 60) (σ0 : tl_St) (k : tl_St → Option (Int32 × tl_St)) : ∀ (n i : Nat) (σ : tl_St), i ≤ z → z - i < n → (∀ j, j < i → σ 37 (60 * s + j) = 0) → (∀ j, j < 60 * s ∨ 60 * s + 60 ≤ j → σ 37 j = σ0 37 j) → (∀ d, d ≠ 37 → σ d = σ0 d) → ∃ σ', fX4_sheet_L55 (nI s) (nI z) k n σ (nI i) = k σ' ∧ (∀ j, j < z → σ' 37 (60 * s + j) = 0) ∧ (∀ j, j < 60 * s ∨ 60 * s + 60 ≤ j → σ' 37 j = σ0 37 j) ∧ (∀ d, d ≠ 37 → σ' d = σ0 d) := by
  intro n
  induction n with
  | zero => intro i σ h1 h2; omega
  | succ n ih =>
    intro i σ h1 h2 h3 h4 h5
    rw [fX4_sheet_L55]
    by_cases hi : i = z
    · subst hi
      rw [if_pos ((sp_le (by omega) (by omega)).mpr (Nat.le_refl _))]
      exact ⟨σ, rfl, h3, h4, h5⟩
    · have e1 : 60 * nI s + nI i = nI (60 * s + i) := by rw [show (60 : Int32) = nI 60 from rfl, pk_mul, nI_add]
      have hin : tl_in (nI (60 * s + i)) 240 := sp_in (by omega) (by decide)
      have hcl : (nI (60 * s + i)).toNatClampNeg = 60 * s + i := sp_cl (by omega)
      rw [if_neg (fun q => absurd ((sp_le (by omega) (by omega)).mp q) (by omega))]
      simp only [tl_be, e1, if_pos hin, hcl]
      rw [← nI_succ]
      refine ih (i + 1) _ (by omega) (by omega) (fun j hj => ?_) (fun j hj => ?_) (fun d hd => ?_)
      · by_cases hji : j = i
        · subst hji; exact sp_ss
        · rw [sp_sn (by omega)]; exact h3 j (by omega)
      · rw [sp_sn (by omega)]; exact h4 j hj
      · rw [sp_n hd]; exact h5 d hd
theorem re_sheet {σ : tl_St} (H : re_R σ) (a b n : Int32) : ∃ r σ1 σ2, fX3_sheet σ a b n = some (r, σ1) ∧ fX4_sheet σ1 a b n = some (r, σ2) ∧ re_R σ2 := by
  obtain ⟨c, he, fl, N, h, u, t, C, H⟩ := H
  obtain ⟨⟨hC, hH, hu, hcu, hX, hXf, hM, hMf⟩, Hl, Hb, Hs⟩ := id H
  have HR : re_R σ := ⟨c, he, fl, N, h, u, t, C, H⟩
  have hN := hC.2.2.2.1
  unfold fX3_sheet fX4_sheet
  simp only [tl_be, re_fX, re_fM, tl_be2]
  rcases re_sh a with ⟨s1, s2⟩ | ⟨s, hs, rfl, s1, s2⟩
  · exact ⟨-2, σ, σ, by rw [s1, if_pos rfl], by rw [s2, if_pos rfl], HR⟩
  · simp only [s1, s2, if_neg re_10]
    rcases re_fm b with ⟨f1, f2⟩ | ⟨f, hf, rfl, f1, f2⟩
    · exact ⟨-2, σ, σ, by rw [f1, if_pos rfl], by rw [f2, if_pos rfl], HR⟩
    · simp only [f1, f2, if_neg re_10]
      by_cases h1 : n ≤ 60
      · simp only [if_pos h1]
        by_cases h2 : 0 ≤ n
        · simp only [if_pos h2]
          obtain ⟨z, -, hz, rfl⟩ := re_rng (l := 0) (m := 60) rfl rfl (by omega) (by omega) (Int32.not_lt.mpr h2) (Int32.not_lt.mpr h1)
          have hin : tl_in (nI s) 4 := sp_in (by omega) (by decide)
          have hcl : (nI s).toNatClampNeg = s := sp_cl (by omega)
          simp only [if_pos hin, hcl]
          obtain ⟨σ1, z1, x1, x2⟩ := sp_fill (a := 25 + 2 * s + 1) (n1 := 60) (v := 0) (by omega) (tl_set (tl_set (tl_set σ (25 + 2 * s) 0 0) (25 + 2 * s) 1 (nI f)) (25 + 2 * s) 2 (nI z))
          have hren : fX1_renew σ (25 + 2 * s) (nI f) (nI z) = some σ1 := by
            unfold fX1_renew
            simp only [tl_be, z1, tl_oe]
          obtain ⟨σ2, z2, m1, m2, m3⟩ := re_zero_ML (s := s) (z := z) hs hz (tl_set (tl_set σ1 35 s (nI f)) 36 s (nI z)) (fun σ11 => some (nI z, σ11)) 1000 0 (tl_set (tl_set σ1 35 s (nI f)) 36 s (nI z)) (by omega) (by omega) (fun j hj => absurd hj (by omega)) (fun _ _ => rfl) (fun _ _ => rfl)
          rw [nI_0] at z2
          have gx : ∀ d, d ≠ 25 + 2 * s → d ≠ 25 + 2 * s + 1 → σ1 d = σ d := fun d q1 q2 => by rw [x2 d q2, sp_n q1, sp_n q1, sp_n q1]
          have gm : ∀ d, d ≠ 35 → d ≠ 36 → d ≠ 37 → σ2 d = σ1 d := fun d q1 q2 q3 => by rw [m3 d q3, sp_n q2, sp_n q1]
          refine ⟨nI z, σ1, σ2, by rw [hren, tl_oe], z2, c, he, fl, N, h, u, t, C, H.1.cg ?_ ?_ ?_ ?_ ?_, Hl.cg ?_ ?_ ?_ ?_, Hb.cg ?_ ?_ ?_ ?_ ?_, re_s_upd hs Hs ?_ ?_ ?_ ?_ ⟨z, hz, ?_, ?_, Or.inr ⟨?_, f, hf, ?_, ?_⟩, fun i hi => ?_⟩⟩
          · intro k _; rw [gm 1 (by omega) (by omega) (by omega), gx 1 (by omega) (by omega)]
          · intro d _ _; rw [gm d (by omega) (by omega) (by omega), gx d (by omega) (by omega)]
          · intro k _; rw [gm 34 (by omega) (by omega) (by omega), gx 34 (by omega) (by omega)]
          · intro d _ _; rw [gm d (by omega) (by omega) (by omega), gx d (by omega) (by omega)]
          · intro i _; rw [gm 43 (by omega) (by omega) (by omega), gx 43 (by omega) (by omega)]
          · intro k _; rw [gm 0 (by omega) (by omega) (by omega), gx 0 (by omega) (by omega)]
          · rw [gm 33 (by omega) (by omega) (by omega), gx 33 (by omega) (by omega)]
          · intro k _; rw [gm 34 (by omega) (by omega) (by omega), gx 34 (by omega) (by omega)]
          · rw [gm 49 (by omega) (by omega) (by omega), gx 49 (by omega) (by omega)]
          · rw [gm 0 (by omega) (by omega) (by omega), gx 0 (by omega) (by omega)]
          · intro d _ _; rw [gm d (by omega) (by omega) (by omega), gx d (by omega) (by omega)]
          · rw [gm 34 (by omega) (by omega) (by omega), gx 34 (by omega) (by omega)]
          · rw [gm 44 (by omega) (by omega) (by omega), gx 44 (by omega) (by omega)]
          · rw [gm 45 (by omega) (by omega) (by omega), gx 45 (by omega) (by omega)]
          · intro d _ _ q1 q2; rw [gm d (by omega) (by omega) (by omega), gx d q1 q2]
          · intro k hk; rw [m3 35 (by decide), sp_n (by decide), sp_sn hk, gx 35 (by omega) (by omega)]
          · intro k hk; rw [m3 36 (by decide), sp_sn hk, sp_n (by decide), gx 36 (by omega) (by omega)]
          · intro j hj; rw [m2 j hj, sp_n (by decide), sp_n (by decide), gx 37 (by omega) (by omega)]
          · rw [gm _ (by omega) (by omega) (by omega), x2 _ (by omega), sp_ss]
          · rw [m3 36 (by decide), sp_ss]
          · rw [gm _ (by omega) (by omega) (by omega), x2 _ (by omega), sp_sn (by decide), sp_sn (by decide), sp_ss]
          · rw [gm _ (by omega) (by omega) (by omega), x2 _ (by omega), sp_sn (by decide), sp_ss]
          · rw [m3 35 (by decide), sp_n (by decide), sp_ss]
          · rw [gm _ (by omega) (by omega) (by omega), x1 i (by omega), m1 i hi]
        · exact ⟨-10 - 5, tl_set σ 0 12 5, tl_set (tl_set σ 0 12 5) 34 4 5, by rw [if_neg h2], by rw [if_neg h2], re_find HR 5⟩
      · exact ⟨-2, σ, σ, by rw [if_neg h1], by rw [if_neg h1], HR⟩
theorem re_lostX {σ : tl_St} {s z : Nat} (h : re_s1 σ s z) : (σ (25 + 2 * s) 0 = 0 ∧ 0 ≤ σ 35 s ∧ ∃ f, f < 3 ∧ σ (25 + 2 * s) 1 = nI f ∧ σ 35 s = nI f) ∨ (¬ σ (25 + 2 * s) 0 = 0 ∧ ¬ 0 ≤ σ 35 s) := by
  rcases h.2.2.2.1 with ⟨a, b⟩ | ⟨a, f, hf, b, d⟩
  · right; rw [a, b]; decide
  · left; refine ⟨a, ?_, f, hf, b, d⟩
    rw [d]; exact nI_pos' (by omega)
theorem re_lose {σ : tl_St} (H : re_R σ) (a : Int32) : ∃ r σ1 σ2, fX3_lose σ a = some (r, σ1) ∧ fX4_lose σ1 a = some (r, σ2) ∧ re_R σ2 := by
  obtain ⟨c, he, fl, N, h, u, t, C, H⟩ := H
  obtain ⟨⟨hC, hH, hu, hcu, hX, hXf, hM, hMf⟩, Hl, Hb, Hs⟩ := id H
  have HR : re_R σ := ⟨c, he, fl, N, h, u, t, C, H⟩
  have hN := hC.2.2.2.1
  unfold fX3_lose fX4_lose
  simp only [tl_be, re_fX, re_fM, tl_be2]
  rcases re_sh a with ⟨s1, s2⟩ | ⟨s, hs, rfl, s1, s2⟩
  · exact ⟨-2, σ, σ, by rw [s1, if_pos rfl], by rw [s2, if_pos rfl], HR⟩
  · have hin : tl_in (nI s) 4 := sp_in (by omega) (by decide)
    have hcl : (nI s).toNatClampNeg = s := sp_cl (by omega)
    simp only [s1, s2, if_neg re_10, if_pos hin, hcl]
    obtain ⟨z, hz⟩ := Hs s hs
    rcases re_lostX hz with ⟨q1, q2, -⟩ | ⟨q1, q2⟩
    · refine ⟨nI z, tl_set σ (25 + 2 * s) 0 1, tl_set (tl_set σ (25 + 2 * s) 0 1) 35 s (-1), ?_, ?_, c, he, fl, N, h, u, t, C, H.1.cg ?_ ?_ ?_ ?_ ?_, Hl.cg ?_ ?_ ?_ ?_, Hb.cg ?_ ?_ ?_ ?_ ?_, re_s_upd hs Hs ?_ ?_ ?_ ?_ ⟨z, hz.1, ?_, ?_, Or.inl ⟨?_, ?_⟩, fun i hi => ?_⟩⟩
      · rw [if_pos q1, sp_sn (by decide), hz.2.1]
      · rw [sp_n (d := 35) (by omega), if_pos q2, sp_n (d := 36) (by decide), sp_n (d := 36) (by omega), hz.2.2.1]
      all_goals first | (intros; (repeat (first | rfl | rw [sp_n (by omega)] | rw [sp_sn (by omega)])); done) | skip
      · rw [sp_n (by omega), sp_sn (by decide)]; exact hz.2.1
      · rw [sp_n (by decide), sp_n (by omega)]; exact hz.2.2.1
      · rw [sp_n (by omega), sp_ss]
      · rw [sp_ss]
      · rw [sp_n (by omega), sp_n (by omega), sp_n (by decide), sp_n (by omega)]; exact hz.2.2.2.2 i hi
    · refine ⟨-10 - 1, tl_set σ 0 12 1, tl_set (tl_set σ 0 12 1) 34 4 1, ?_, ?_, re_find HR 1⟩
      · rw [if_neg q1]
      · rw [sp_n (by decide), if_neg q2]

