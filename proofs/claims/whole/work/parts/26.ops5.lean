/-! how much is in all basins -/
def re_sum (he : Nat → Int32) : Nat → Int32
  | 0 => 0
  | i + 1 => re_sum he i + he i
theorem re_sum_XL {σ c : tl_St} {he : Nat → Int32} {N : Nat} (hN : N ≤ 4) (hX : sp_RX 1 σ c he N) (k2 : Int32 → Option Int32) : ∀ n i : Nat, i ≤ N → N - i < n → fX2_heldInAll_L4 σ 1 k2 n (re_sum he i) (nI i) = k2 (re_sum he N) := by
  intro n
  induction n with
  | zero => intro i h1 h2; omega
  | succ n ih =>
    intro i h1 h2
    rw [fX2_heldInAll_L4, hX.2.1]
    by_cases hi : i = N
    · subst hi
      rw [if_pos ((sp_le (by omega) (by omega)).mpr (Nat.le_refl _))]
    · have hin : tl_in (nI i) 4 := sp_in (by omega) (by decide)
      have hcl : (nI i).toNatClampNeg = i := sp_cl (by omega)
      have ih' := ih (i + 1) (by omega) (by omega)
      rw [nI_succ] at ih'
      rw [if_neg (fun q => absurd ((sp_le (by omega) (by omega)).mp q) (by omega))]
      simp only [tl_be, if_pos hin, hcl, (hX.2.2.2 i (by omega)).2.2.2.2.2]
      exact ih'
theorem re_sum_ML {σ c : tl_St} {he : Nat → Int32} {N : Nat} (hN : N ≤ 4) (hM : sp_RM σ c he N) (k2 : Int32 → Option Int32) : ∀ n i : Nat, i ≤ N → N - i < n → fX4_inBasins_L4 σ k2 n (re_sum he i) (nI i) = k2 (re_sum he N) := by
  intro n
  induction n with
  | zero => intro i h1 h2; omega
  | succ n ih =>
    intro i h1 h2
    rw [fX4_inBasins_L4, hM.2.1]
    by_cases hi : i = N
    · subst hi
      rw [if_pos ((sp_le (by omega) (by omega)).mpr (Nat.le_refl _))]
    · have hin : tl_in (nI i) 4 := sp_in (by omega) (by decide)
      have hcl : (nI i).toNatClampNeg = i := sp_cl (by omega)
      have ih' := ih (i + 1) (by omega) (by omega)
      rw [nI_succ] at ih'
      rw [if_neg (fun q => absurd ((sp_le (by omega) (by omega)).mp q) (by omega))]
      simp only [tl_be, if_pos hin, hcl, (hM.2.2.2 i (by omega)).2.2.2.2]
      exact ih'
theorem re_sumX {σ c : tl_St} {he : Nat → Int32} {N : Nat} (hN : N ≤ 4) (hX : sp_RX 1 σ c he N) : fX2_heldInAll σ 1 = some (re_sum he N) := by
  have h0 := re_sum_XL hN hX (fun x1 => some x1) 1000 0 (by omega) (by omega)
  rw [re_sum, nI_0] at h0
  unfold fX2_heldInAll
  simp only [tl_be]
  exact h0
theorem re_sumM {σ c : tl_St} {he : Nat → Int32} {N : Nat} (hN : N ≤ 4) (hM : sp_RM σ c he N) : fX4_inBasins σ = some (re_sum he N) := by
  have h0 := re_sum_ML hN hM (fun x1 => some x1) 1000 0 (by omega) (by omega)
  rw [re_sum, nI_0] at h0
  unfold fX4_inBasins
  simp only [tl_be]
  exact h0
theorem re_totalBy {σ c : tl_St} {he : Nat → Int32} {N t j : Nat} (hN : N ≤ 4) (hX : sp_RX 1 σ c he N) (hM : sp_RM σ c he N) (Hl : re_l σ t) (hj : j ≤ 4) : ∃ r, fX3_total σ (nI j) = some r ∧ fX4_totalBy σ (nI j) = some r := by
  obtain ⟨l1, l2, l3, l4, l5, l6, l7, l8, l9, l10⟩ := id Hl
  unfold fX3_total fX4_totalBy
  simp only [re_sumX hN hX, re_sumM hN hM, tl_oe, l5, l6, l7, l8]
  rcases (show j = 0 ∨ j = 1 ∨ j = 2 ∨ j = 3 ∨ j = 4 by omega) with rfl | rfl | rfl | rfl | rfl
  · exact ⟨_, rfl, rfl⟩
  · exact ⟨_, rfl, rfl⟩
  · exact ⟨_, rfl, rfl⟩
  · exact ⟨_, rfl, rfl⟩
  · exact ⟨_, rfl, rfl⟩
theorem re_notN {a : Int32} {m : Nat} (hm : m < 2 ^ 31) (h : a < 0 ∨ nI m < a) (k : Nat) (hk : k ≤ m) : ¬ a = nI k := by
  intro e
  subst e
  rcases h with q | q
  · exact nI_pos (by omega) q
  · exact absurd ((sp_lt (by omega) (by omega)).mp q) (by omega)
theorem re_total {σ : tl_St} (H : re_R σ) (a : Int32) : ∃ r, fX3_total σ a = some r ∧ fX4_total σ a = some r := by
  obtain ⟨c, he, fl, N, h, u, t, C, H⟩ := H
  obtain ⟨⟨hC, hH, hu, hcu, hX, hXf, hM, hMf⟩, Hl, Hb, Hs⟩ := id H
  have HR : re_R σ := ⟨c, he, fl, N, h, u, t, C, H⟩
  have hN := hC.2.2.2.1
  have key : a < 0 ∨ 4 < a → fX3_total σ a = some (-2) := by
    intro hb
    have n := re_notN (m := 4) (by omega) hb
    have n0 : ¬ a = 0 := n 0 (by omega)
    have n1 : ¬ a = 1 := n 1 (by omega)
    have n2 : ¬ a = 2 := n 2 (by omega)
    have n3 : ¬ a = 3 := n 3 (by omega)
    have n4 : ¬ a = 4 := n 4 (by omega)
    unfold fX3_total
    rw [if_neg n0, if_neg n1, if_neg n2, if_neg n3, if_neg n4]
  by_cases h2 : a < 0
  · refine ⟨-2, key (Or.inl h2), ?_⟩
    unfold fX4_total
    simp only [tl_be, re_i0_4, if_pos h2, if_true]
  · by_cases h3 : 4 < a
    · refine ⟨-2, key (Or.inr h3), ?_⟩
      unfold fX4_total
      simp only [tl_be, re_i0_4, if_neg h2, if_pos h3, if_true]
    · obtain ⟨j, -, hj, rfl⟩ := re_rng (l := 0) (m := 4) rfl rfl (by omega) (by omega) h2 h3
      obtain ⟨r, z1, z2⟩ := re_totalBy hN hX hM Hl hj
      refine ⟨r, z1, ?_⟩
      unfold fX4_total
      simp only [tl_be, re_i0_4, if_neg h2, if_neg h3, if_neg re_10, z2, tl_oe]
/-! what would be -/
theorem re_tryTurn {σ c : tl_St} {he : Nat → Int32} {fl : Bool} {N h : Nat} (hC : sp_C c N h) (hH : sp_H c N he) (hX : sp_RX 1 σ c he N) (hXf : σ 1 1 = if fl then c 0 0 else 0) : ∃ σ', fX3_tryTurn σ = some σ' ∧ (∀ d, d < 10 ∨ 18 < d → σ' d = σ d) ∧ (∀ j, j < h → σ' (10 + 7) j = sp_st c fl N he j) := by
  obtain ⟨σ1, z1, r1, f1, g1⟩ := sp_like hC hX
  obtain ⟨σ2, z2, b1, b2, b3, b4, b5, b6, b7, b8⟩ := sp_makeTurn hC hH r1 (fl := fl) (by rw [f1]; exact hXf)
  refine ⟨σ2, ?_, fun d hd => ?_, b6⟩
  · unfold fX3_tryTurn
    simp only [z1, z2, tl_oe]
  · rw [b7 d (by omega) (by omega) (by omega) (by omega), g1 d (by omega)]
theorem re_stepBy {σ c : tl_St} {he : Nat → Int32} {fl : Bool} {N h j : Nat} (hC : sp_C c N h) (hM : sp_RM σ c he N) (hs : ∀ k, k < h → σ 46 k = sp_st c fl N he k) (hj : j < 60) : fX4_stepBy σ (nI j) = some (if j < h then sp_st c fl N he j else -1) := by
  have h60 := hC.2.2.1
  unfold fX4_stepBy
  rw [if_neg (sp_ne1 (by omega)), hM.1, hC.1]
  by_cases hjh : j < h
  · rw [if_neg (sp_nge rfl hjh (by omega)), if_pos (sp_in (by omega) (by decide)), sp_cl (by omega), hs j hjh, if_pos hjh]
  · rw [if_pos (sp_ge rfl (by omega) (by omega)), if_neg hjh]
theorem re_step {σ : tl_St} (H : re_R σ) (a : Int32) : ∃ r σ1 σ2, fX3_step σ a = some (r, σ1) ∧ fX4_step σ1 a = some (r, σ2) ∧ re_R σ2 := by
  obtain ⟨c, he, fl, N, h, u, t, C, H⟩ := H
  obtain ⟨⟨hC, hH, hu, hcu, hX, hXf, hM, hMf⟩, Hl, Hb, Hs⟩ := id H
  have HR : re_R σ := ⟨c, he, fl, N, h, u, t, C, H⟩
  have hN := hC.2.2.2.1
  have h60 := hC.2.2.1
  have mside : ∀ σ1, re_P σ1 c he fl N h u t C → ∃ σ2, fX4_looks σ1 = some σ2 ∧ re_P σ2 c he fl N h u t C ∧ (∀ j, j < h → σ2 46 j = sp_st c fl N he j) := by
    intro σ1 H1
    obtain ⟨σ2, z, k1, k2⟩ := sp_looks hC hH H1.1.2.2.2.2.2.2.1 H1.1.2.2.2.2.2.2.2
    exact ⟨σ2, z, H1.M k1, k2⟩
  by_cases h1 : a < -1
  · obtain ⟨σ2, z, H2, -⟩ := mside σ H
    refine ⟨-2, σ, σ2, ?_, ?_, _, _, _, _, _, _, _, _, H2⟩
    · unfold fX3_step; rw [if_pos h1]
    · unfold fX4_step; simp only [z, tl_oe, tl_be, re_im1_59, if_pos h1, if_true]
  · by_cases h2 : 59 < a
    · have h2' : ¬ a < 60 := by
        have h0 : ¬ a < 0 := fun q => absurd (Int32.lt_trans h2 q) (by decide)
        exact Int32.not_lt.mpr ((re_ok59 h0).mp h2)
      obtain ⟨σ2, z, H2, -⟩ := mside σ H
      refine ⟨-2, σ, σ2, ?_, ?_, _, _, _, _, _, _, _, _, H2⟩
      · unfold fX3_step; rw [if_neg h1, if_neg h2']
      · unfold fX4_step; simp only [z, tl_oe, tl_be, re_im1_59, if_neg h1, if_pos h2, if_true]
    · by_cases h3 : a = -1
      · obtain ⟨σ2, z, H2, -⟩ := mside σ H
        refine ⟨c 0 0, σ, σ2, ?_, ?_, _, _, _, _, _, _, _, _, H2⟩
        · unfold fX3_step; subst h3
          rw [if_neg h1, if_pos (by decide), if_pos rfl, hX.1]
        · unfold fX4_step
          have : fX4_stepBy σ2 a = some (c 0 0) := by
            unfold fX4_stepBy
            rw [if_pos h3, H2.1.2.2.2.2.2.2.1.1]
          simp only [z, tl_oe, tl_be, re_im1_59, if_neg h1, if_neg h2, if_neg re_10, this]
      · have h0 : ¬ a < 0 := by
          intro q
          apply h3
          have q1 := Int32.not_lt.mp h1
          apply Int32.toInt_inj.mp
          rw [Int32.le_iff_toInt_le] at q1
          rw [Int32.lt_iff_toInt_lt] at q
          have e1 : (-1 : Int32).toInt = -1 := by decide
          have e0 : (0 : Int32).toInt = 0 := by decide
          rw [e1] at q1 ⊢; rw [e0] at q
          omega
        obtain ⟨j, -, hj, rfl⟩ := re_rng (l := 0) (m := 59) rfl rfl (by omega) (by omega) h0 h2
        have hlt : nI j < 60 := (sp_lt (a := j) (b := 60) (by omega) (by omega)).mpr (by omega)
        by_cases hjh : j < h
        · obtain ⟨σ1, z1, x1, x2⟩ := re_tryTurn hC hH hX hXf
          obtain ⟨σ2, z, H2, k2⟩ := mside σ1 (H.X x1)
          refine ⟨sp_st c fl N he j, σ1, σ2, ?_, ?_, _, _, _, _, _, _, _, _, H2⟩
          · unfold fX3_step
            rw [if_neg h1, if_pos hlt, if_neg h3, hX.1, hC.1, if_pos ((sp_lt (by omega) (by omega)).mpr hjh), z1, tl_oe, if_pos (sp_in (by omega) (by decide)), sp_cl (by omega), x2 j hjh]
          · unfold fX4_step
            simp only [z, tl_oe, tl_be, re_im1_59, if_neg h1, if_neg h2, if_neg re_10, re_stepBy hC H2.1.2.2.2.2.2.2.1 k2 (show j < 60 by omega), if_pos hjh]
        · obtain ⟨σ2, z, H2, k2⟩ := mside σ H
          refine ⟨-1, σ, σ2, ?_, ?_, _, _, _, _, _, _, _, _, H2⟩
          · unfold fX3_step
            rw [if_neg h1, if_pos hlt, if_neg h3, hX.1, hC.1, if_neg (fun q => hjh ((sp_lt (by omega) (by omega)).mp q))]
          · unfold fX4_step
            simp only [z, tl_oe, tl_be, re_im1_59, if_neg h1, if_neg h2, if_neg re_10, re_stepBy hC H2.1.2.2.2.2.2.2.1 k2 (show j < 60 by omega), if_neg hjh]
/-- AHEAD on both sides, told for small numbers -/
theorem re_aheadX {σ c : tl_St} {he : Nat → Int32} {fl : Bool} {N h T : Nat} (hC : sp_C c N h) (hH : sp_H c N he) (hX : sp_RX 1 σ c he N) (hXf : σ 1 1 = if fl then c 0 0 else 0) (hT : T ≤ 40) : ∃ σ', fX3_ahead σ (nI T) = some ((sp_A c N h fl he T).2.2, σ') ∧ (∀ d, d < 10 ∨ 18 < d → σ' d = σ d) := by
  obtain ⟨σ1, z1, r1, f1, g1⟩ := sp_like hC hX
  obtain ⟨r, σ2, z2, g2, h2, -⟩ := sp_drawn (T := T) (fl := fl) 1000000 hC hH (by omega) r1 (by rw [f1]; exact hXf)
  obtain ⟨d, hd, ed⟩ := sp_A_D (c := c) (N := N) (fl := fl) (he := he) hC.2.2.1 T
  have hr := h2 (by rw [ed]; exact (sp_lt (b := 1000000) (by omega) (by omega)).mpr (by omega))
  refine ⟨σ2, ?_, fun d hd => ?_⟩
  · unfold fX3_ahead
    rw [if_neg (nI_pos (by omega)), if_pos (show nI T ≤ 40 from (sp_le (b := 40) (by omega) (by omega)).mpr hT), z1, tl_oe, z2, tl_oe2, hr]
  · rw [g2 d (by omega), g1 d (by omega)]
theorem re_ahead {σ : tl_St} (H : re_R σ) (a : Int32) : ∃ r σ1 σ2, fX3_ahead σ a = some (r, σ1) ∧ fX4_ahead σ1 a = some (r, σ2) ∧ re_R σ2 := by
  obtain ⟨c, he, fl, N, h, u, t, C, H⟩ := H
  obtain ⟨⟨hC, hH, hu, hcu, hX, hXf, hM, hMf⟩, Hl, Hb, Hs⟩ := id H
  have HR : re_R σ := ⟨c, he, fl, N, h, u, t, C, H⟩
  have hN := hC.2.2.2.1
  by_cases h1 : a < 0
  · refine ⟨-2, σ, σ, ?_, ?_, HR⟩
    · unfold fX3_ahead; rw [if_pos h1]
    · unfold fX4_ahead; simp only [tl_be, re_i0_40, if_pos h1, if_true]
  · by_cases h2 : 40 < a
    · refine ⟨-2, σ, σ, ?_, ?_, HR⟩
      · unfold fX3_ahead; rw [if_neg h1, if_neg (Int32.not_le.mpr h2)]
      · unfold fX4_ahead; simp only [tl_be, re_i0_40, if_neg h1, if_pos h2, if_true]
    · obtain ⟨T, -, hT, rfl⟩ := re_rng (l := 0) (m := 40) rfl rfl (by omega) (by omega) h1 h2
      obtain ⟨σ1, z1, x1⟩ := re_aheadX hC hH hX hXf hT
      have H1 := H.X x1
      obtain ⟨σ2, z2, k2⟩ := sp_aheadOf (T := T) hC hH H1.1.2.2.2.2.2.2.1 H1.1.2.2.2.2.2.2.2 (by omega)
      refine ⟨_, σ1, σ2, z1, ?_, _, _, _, _, _, _, _, _, H1.M k2⟩
      unfold fX4_ahead
      simp only [tl_be, re_i0_40, if_neg h1, if_neg h2, if_neg re_10, z2, tl_oe2]
theorem re_better {σ : tl_St} (H : re_R σ) (a b : Int32) : ∃ r σ1 σ2, fX3_better σ a b = some (r, σ1) ∧ fX4_better σ1 a b = some (r, σ2) ∧ re_R σ2 := by
  obtain ⟨c, he, fl, N, h, u, t, C, H⟩ := H
  obtain ⟨⟨hC, hH, hu, hcu, hX, hXf, hM, hMf⟩, Hl, Hb, Hs⟩ := id H
  have HR : re_R σ := ⟨c, he, fl, N, h, u, t, C, H⟩
  have hN := hC.2.2.2.1
  rcases re_isBasinX hX.2.1 hN a with ⟨h0, -⟩ | ⟨i, hi, rfl, h1⟩
  · refine ⟨-2, σ, σ, ?_, ?_, HR⟩
    · unfold fX3_better; simp only [tl_be, h0, if_true]
    · unfold fX4_better; simp only [tl_be, re_isBasin hX.2.1 hM.2.1 hN, h0, if_true]
  · have key : b = 0 ∨ b = 1 → ∃ r σ1 σ2, fX3_better σ (nI i) b = some (r, σ1) ∧ fX4_better σ1 (nI i) b = some (r, σ2) ∧ re_R σ2 := by
      intro hb
      obtain ⟨σ1, x5, x6, z1, x1, hch⟩ := sp_bestBottom hC hH hi hX hXf
      have H1 := H.X x1
      obtain ⟨⟨-, -, -, -, hX1, -, hM1, hMf1⟩, -⟩ := id H1
      obtain ⟨σ2, z2, k2⟩ := sp_betterBy (a := b) hC hH hi hM1 hMf1
      have hp := sp_ch_part hch σ1
      obtain ⟨j, hj, ej⟩ := sp_bB_j (c := c) (N := N) (i := i) (fl := fl) (he := he) hC.2.2.1
      have hne : ¬ (sp_bB c N h fl he i).1 = -1 := by rw [ej]; exact sp_ne1 (by omega)
      rw [if_neg hne] at hp
      have hb1 : fX4_isBasin σ1 (nI i) = 1 := by
        rw [re_isBasin hX1.2.1 hM1.2.1 hN]
        have : fX3_isBasin σ1 (nI i) = fX3_isBasin σ (nI i) := by
          unfold fX3_isBasin; rw [x1 1 (by omega)]
        rw [this, h1]
      refine ⟨if b = 0 then (sp_bB c N h fl he i).1 else (sp_bB c N h fl he i).2, σ1, σ2, ?_, ?_, _, _, _, _, _, _, _, _, H1.M k2⟩
      · unfold fX3_better
        simp only [tl_be, h1, if_neg re_10, z1, tl_oe2]
        rcases hb with rfl | rfl
        · rw [if_neg (by decide), if_pos (by decide), hp.1]; rfl
        · rw [if_neg (by decide), if_pos (by decide), hp.2]; rfl
      · unfold fX4_better
        simp only [tl_be, hb1, if_neg re_10, re_two, z2, tl_oe2]
        rcases hb with rfl | rfl <;> rfl
    by_cases e0 : b = 0
    · exact key (Or.inl e0)
    · by_cases e1 : b = 1
      · exact key (Or.inr e1)
      · refine ⟨-2, σ, σ, ?_, ?_, HR⟩
        · unfold fX3_better
          simp only [tl_be, h1, if_neg re_10]
          by_cases h2 : b < 0
          · rw [if_pos h2]
          · rw [if_neg h2]
            by_cases h3 : b ≤ 1
            · obtain ⟨j, -, hj, ej⟩ := re_rng (l := 0) (m := 1) rfl rfl (by omega) (by omega) h2 (Int32.not_lt.mpr h3)
              rcases (show j = 0 ∨ j = 1 by omega) with rfl | rfl
              · exact absurd ej e0
              · exact absurd ej e1
            · rw [if_neg h3]
        · unfold fX4_better
          simp only [tl_be, re_isBasin hX.2.1 hM.2.1 hN, h1, if_neg re_10, re_two, if_neg e0, if_neg e1, if_true]
theorem re_needless {σ : tl_St} (H : re_R σ) (b : Int32) : ∃ r σ1 σ2, fX3_needless σ b = some (r, σ1) ∧ fX4_needless σ1 b = some (r, σ2) ∧ re_R σ2 := by
  obtain ⟨c, he, fl, N, h, u, t, C, H⟩ := H
  obtain ⟨⟨hC, hH, hu, hcu, hX, hXf, hM, hMf⟩, Hl, Hb, Hs⟩ := id H
  have HR : re_R σ := ⟨c, he, fl, N, h, u, t, C, H⟩
  have hN := hC.2.2.2.1
  have key : b = 0 ∨ b = 1 → ∃ r σ1 σ2, fX3_needless σ b = some (r, σ1) ∧ fX4_needless σ1 b = some (r, σ2) ∧ re_R σ2 := by
    intro hb
    obtain ⟨σ1, x5, x6, z1, x1, hch⟩ := sp_leastNeeded hC hH hX hXf
    have H1 := H.X x1
    obtain ⟨⟨-, -, -, -, hX1, -, hM1, hMf1⟩, -⟩ := id H1
    obtain ⟨σ2, z2, k2⟩ := sp_needlessBy (a := b) hC hH hu hcu hM1 hMf1
    have hp := sp_ch_part hch σ1
    refine ⟨if (sp_bN c N h fl he).1 = -1 then (sp_bN c N h fl he).1 else if b = 0 then (sp_bN c N h fl he).1 else (sp_bN c N h fl he).2, σ1, σ2, ?_, ?_, _, _, _, _, _, _, _, _, H1.M k2⟩
    · unfold fX3_needless
      simp only [tl_be, z1, tl_oe2]
      rcases hb with rfl | rfl
      · rw [if_neg (by decide), if_pos (by decide), hp.1]
        by_cases q : (sp_bN c N h fl he).1 = -1
        · rw [if_pos q]
        · rw [if_neg q]; rfl
      · rw [if_neg (by decide), if_pos (by decide), hp.2]
        by_cases q : (sp_bN c N h fl he).1 = -1
        · rw [if_pos q, if_pos q, q]
        · rw [if_neg q, if_neg q]; rfl
    · unfold fX4_needless
      simp only [tl_be, re_two, z2, tl_oe2]
      rcases hb with rfl | rfl <;> rfl
  by_cases e0 : b = 0
  · exact key (Or.inl e0)
  · by_cases e1 : b = 1
    · exact key (Or.inr e1)
    · refine ⟨-2, σ, σ, ?_, ?_, HR⟩
      · unfold fX3_needless
        by_cases h2 : b < 0
        · rw [if_pos h2]
        · rw [if_neg h2]
          by_cases h3 : b ≤ 1
          · obtain ⟨j, -, hj, ej⟩ := re_rng (l := 0) (m := 1) rfl rfl (by omega) (by omega) h2 (Int32.not_lt.mpr h3)
            rcases (show j = 0 ∨ j = 1 by omega) with rfl | rfl
            · exact absurd ej e0
            · exact absurd ej e1
          · rw [if_neg h3]
      · unfold fX4_needless
        simp only [tl_be, re_two, if_neg e0, if_neg e1, if_true]

