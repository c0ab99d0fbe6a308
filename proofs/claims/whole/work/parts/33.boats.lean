/-! boats -/
theorem bo_s (σ : tl_St) (w i : Nat) : re_q σ w (i + 1) = if re_wt σ w i then re_q σ w i ++ [i] else re_q σ w i := by
  unfold re_q
  rw [List.range_succ, List.filter_append]
  by_cases h : re_wt σ w i
  · rw [if_pos h]; simp [List.filter_cons, h]
  · rw [if_neg h]; simp [List.filter_cons, h]
theorem bo_len (σ : tl_St) (w : Nat) : ∀ i : Nat, (re_q σ w i).length ≤ i
  | 0 => Nat.le_refl 0
  | i + 1 => by
    have := bo_len σ w i
    rw [bo_s]
    by_cases h : re_wt σ w i
    · rw [if_pos h, List.length_append]; simp; exact this
    · rw [if_neg h]; omega
theorem bo_mem {σ : tl_St} {w C b : Nat} : b ∈ re_q σ w C ↔ b < C ∧ re_wt σ w b := by
  unfold re_q
  rw [List.mem_filter, List.mem_range, decide_eq_true_eq]
theorem bo_nodup (σ : tl_St) (w C : Nat) : (re_q σ w C).Nodup := List.Pairwise.filter _ List.nodup_range
/-- the i-th of a row of boats -/
def bo_at (l : List Nat) (a : Int32) : Int32 := if a < 0 then -1 else if nI l.length ≤ a then -1 else nI (l.getD a.toNatClampNeg 0)
theorem bo_at_s {l : List Nat} (hl : l.length < 1000) (b : Nat) (a : Int32) : bo_at (l ++ [b]) a = if nI l.length = a then nI b else bo_at l a := by
  unfold bo_at
  rw [List.length_append, List.length_singleton]
  rcases pk_ix a (n := l.length + 1) (by omega) with h | h | ⟨j, hj, rfl⟩
  · rw [if_pos h, if_pos h, if_neg (fun e => nI_pos (n := l.length) (by omega) (by rw [e]; exact h))]
  · by_cases h0 : a < 0
    · rw [if_pos h0, if_pos h0, if_neg (fun e => nI_pos (n := l.length) (by omega) (by rw [e]; exact h0))]
    · obtain ⟨j, hj, rfl⟩ := nI_of h0
      have h' := (sp_le (by omega) (by omega)).mp h
      rw [if_neg h0, if_neg h0, if_pos h, if_neg (fun e => absurd ((nI_eq (by omega) (by omega)).mp e) (by omega)), if_pos ((sp_le (by omega) (by omega)).mpr (by omega))]
  · have h0 : ¬ nI j < 0 := nI_pos (by omega)
    rw [if_neg h0, if_neg h0, if_neg (sp_nge rfl hj (by omega)), sp_cl (by omega)]
    by_cases hjl : j = l.length
    · subst hjl
      rw [if_pos rfl]
      simp
    · rw [if_neg (fun e => hjl ((nI_eq (by omega) (by omega)).mp e).symm), if_neg (sp_nge rfl (show j < l.length by omega) (by omega))]
      congr 1
      rw [List.getD_eq_getElem?_getD, List.getD_eq_getElem?_getD, List.getElem?_append_left (by omega)]
/-! the reference's loops over all boats -/
theorem bo_many_L {σ : tl_St} {w C : Nat} (hC : σ 34 14 = nI C) (h1 : C ≤ 100) (k2 : Int32 → Option Int32) : ∀ n i : Nat, i ≤ C → C - i < n → fX4_manyWait_L4 σ (nI w) k2 n (nI (re_q σ w i).length) (nI i) = k2 (nI (re_q σ w C).length) := by
  intro n
  induction n with
  | zero => intro i h1 h2; omega
  | succ n ih =>
    intro i h2 h3
    rw [fX4_manyWait_L4, hC]
    by_cases hi : i = C
    · subst hi
      rw [if_pos ((sp_le (by omega) (by omega)).mpr (Nat.le_refl _))]
    · have hin : tl_in (nI i) 100 := sp_in (by omega) (by decide)
      have hcl : (nI i).toNatClampNeg = i := sp_cl (by omega)
      have ih' := ih (i + 1) (by omega) (by omega)
      rw [bo_s, nI_succ] at ih'
      rw [if_neg (fun q => absurd ((sp_le (by omega) (by omega)).mp q) (by omega))]
      simp only [tl_be, if_pos hin, hcl]
      by_cases h4 : σ 45 i = 0
      · rw [if_neg (fun z => z.1 h4)] at ih'
        rw [if_pos h4, Int32.add_zero]; exact ih'
      · by_cases h5 : σ 44 i = nI w
        · rw [if_pos ⟨h4, h5⟩, List.length_append, List.length_singleton, nI_succ] at ih'
          rw [if_neg h4, if_pos h5]; exact ih'
        · rw [if_neg (fun z => h5 z.2)] at ih'
          rw [if_neg h4, if_neg h5, Int32.add_zero]; exact ih'
theorem bo_many {σ : tl_St} {w C : Nat} (hC : σ 34 14 = nI C) (h1 : C ≤ 100) : fX4_manyWait σ (nI w) = some (nI (re_q σ w C).length) := by
  have h0 := bo_many_L (w := w) hC h1 (fun x1 => some x1) 1000 0 (by omega) (by omega)
  rw [nI_0] at h0
  unfold fX4_manyWait
  simp only [tl_be]
  exact h0
theorem bo_wait_L {σ : tl_St} {w C : Nat} {a : Int32} (hC : σ 34 14 = nI C) (h1 : C ≤ 100) (k3 : Int32 → Int32 → Option Int32) : ∀ n i : Nat, i ≤ C → C - i < n → fX4_waitsBy_L8 σ (nI w) a k3 n (nI (re_q σ w i).length) (bo_at (re_q σ w i) a) (nI i) = k3 (nI (re_q σ w C).length) (bo_at (re_q σ w C) a) := by
  intro n
  induction n with
  | zero => intro i h1 h2; omega
  | succ n ih =>
    intro i h2 h3
    rw [fX4_waitsBy_L8, hC]
    by_cases hi : i = C
    · subst hi
      rw [if_pos ((sp_le (by omega) (by omega)).mpr (Nat.le_refl _))]
    · have hin : tl_in (nI i) 100 := sp_in (by omega) (by decide)
      have hcl : (nI i).toNatClampNeg = i := sp_cl (by omega)
      have ih' := ih (i + 1) (by omega) (by omega)
      rw [bo_s, nI_succ] at ih'
      rw [if_neg (fun q => absurd ((sp_le (by omega) (by omega)).mp q) (by omega))]
      simp only [tl_be, if_pos hin, hcl]
      by_cases h4 : σ 45 i = 0
      · rw [if_neg (fun z => z.1 h4)] at ih'
        rw [if_pos h4]; exact ih'
      · by_cases h5 : σ 44 i = nI w
        · have hl := bo_len σ w i
          rw [if_pos ⟨h4, h5⟩, List.length_append, List.length_singleton, nI_succ, bo_at_s (by omega)] at ih'
          rw [if_neg h4, if_pos h5]
          by_cases h6 : nI (re_q σ w i).length = a
          · rw [if_pos h6] at ih' ⊢; exact ih'
          · rw [if_neg h6] at ih' ⊢; exact ih'
        · rw [if_neg (fun z => h5 z.2)] at ih'
          rw [if_neg h4, if_neg h5]; exact ih'
theorem bo_at_nil (a : Int32) : bo_at [] a = -1 := by
  unfold bo_at
  by_cases h : a < 0
  · rw [if_pos h]
  · rw [if_neg h, if_pos (show nI ([] : List Nat).length ≤ a from Int32.not_lt.mp h)]
theorem bo_waitsBy {σ : tl_St} {w C : Nat} {a : Int32} (hC : σ 34 14 = nI C) (h1 : C ≤ 100) : fX4_waitsBy σ (nI w) a = some (if a = -1 then nI (re_q σ w C).length else bo_at (re_q σ w C) a) := by
  have h0 := bo_wait_L (w := w) (a := a) hC h1 (fun x1 x2 => if a = -1 then some x1 else some x2) 1000 0 (by omega) (by omega)
  rw [nI_0, show re_q σ w 0 = [] from rfl, bo_at_nil] at h0
  unfold fX4_waitsBy
  simp only [tl_be]
  rw [show nI ([] : List Nat).length = 0 from rfl] at h0
  rw [h0]
  by_cases ha : a = -1
  · rw [if_pos ha, if_pos ha]
  · rw [if_neg ha, if_neg ha]
/-! the class's rows -/
theorem bo_boatAt {σ : tl_St} {C w : Nat} (Hb : re_b σ C) (hw : w < 2) (a : Int32) : fX0_boatAt σ (20 + 2 * w) a = some (bo_at (re_q σ w C) a) := by
  obtain ⟨a1, a2, a3⟩ := Hb.2.2.2.2 w hw
  unfold fX0_boatAt bo_at
  simp only [tl_be, a1]
  by_cases h0 : a < 0
  · rw [if_pos h0, if_pos h0]
  · rw [if_neg h0, if_neg h0]
    by_cases h1 : nI (re_q σ w C).length ≤ a
    · rw [if_pos h1, if_pos h1]
    · rw [if_neg h1, if_neg h1]
      obtain ⟨j, hj, rfl⟩ := nI_of h0
      have hjl : j < (re_q σ w C).length := by
        rcases Nat.lt_or_ge j (re_q σ w C).length with q | q
        · exact q
        · exact absurd ((sp_le (by omega) (by omega)).mpr q) h1
      rw [if_pos (sp_in (by omega) (by decide)), sp_cl (by omega), a3 j hjl]
theorem bo_way (σ : tl_St) (a : Int32) : fX3_isWay σ a = if a = 0 then 1 else if a = 1 then 1 else 0 := by
  unfold fX3_isWay
  simp only [tl_be]
theorem bo_ways {a : Int32} (h : a = 0 ∨ a = 1) : ∃ w, w < 2 ∧ a = nI w := by
  rcases h with rfl | rfl
  · exact ⟨0, by omega, rfl⟩
  · exact ⟨1, by omega, rfl⟩
theorem bo_w1 (σ : tl_St) {w : Nat} (hw : w < 2) : fX3_isWay σ (nI w) = 1 ∧ fX4_isTwo σ (nI w) = 1 := by
  rw [bo_way, re_two]
  rcases (show w = 0 ∨ w = 1 by omega) with rfl | rfl
  · exact ⟨rfl, rfl⟩
  · exact ⟨rfl, rfl⟩
theorem bo_waitsX {σ : tl_St} {C w : Nat} {a : Int32} (Hb : re_b σ C) (hw : w < 2) (h1 : ¬ a < -1) (h2 : a < 16) : fX3_waits σ (nI w) a = some (if a = -1 then nI (re_q σ w C).length else bo_at (re_q σ w C) a) := by
  have hin : tl_in (nI w) 2 := sp_in (by omega) (by decide)
  have hcl : (nI w).toNatClampNeg = w := sp_cl (by omega)
  unfold fX3_waits
  simp only [tl_be, (bo_w1 σ hw).1, if_neg re_10, if_neg h1, if_pos h2, if_pos hin, hcl, (Hb.2.2.2.2 w hw).1, bo_boatAt Hb hw, tl_oe]
  by_cases ha : a = -1
  · rw [if_pos ha, if_pos ha]
  · rw [if_neg ha, if_neg ha]
theorem re_15 (a : Int32) : 15 < a ↔ ¬ a < 16 := by
  rw [Int32.not_lt, Int32.lt_iff_toInt_lt, Int32.le_iff_toInt_le]
  have e1 : (15 : Int32).toInt = 15 := by decide
  have e0 : (16 : Int32).toInt = 16 := by decide
  rw [e1, e0]; omega
theorem re_waits {σ : tl_St} (H : re_R σ) (a b : Int32) : ∃ r, fX3_waits σ a b = some r ∧ fX4_waits σ a b = some r := by
  obtain ⟨c, he, fl, N, h, u, t, C, H⟩ := H
  obtain ⟨⟨hC, hH, hu, hcu, hX, hXf, hM, hMf⟩, Hl, Hb, Hs⟩ := id H
  have HR : re_R σ := ⟨c, he, fl, N, h, u, t, C, H⟩
  have hN := hC.2.2.2.1
  have key : a = 0 ∨ a = 1 → ∃ r, fX3_waits σ a b = some r ∧ fX4_waits σ a b = some r := by
    intro ha
    obtain ⟨w, hw, rfl⟩ := bo_ways ha
    by_cases h1 : b < -1
    · refine ⟨-2, ?_, ?_⟩
      · unfold fX3_waits; simp only [tl_be, (bo_w1 σ hw).1, if_neg re_10, if_pos h1]
      · unfold fX4_waits; simp only [tl_be, (bo_w1 σ hw).2, if_neg re_10, re_im1_15, if_pos h1, if_true]
    · by_cases h2 : b < 16
      · refine ⟨_, bo_waitsX Hb hw h1 h2, ?_⟩
        unfold fX4_waits
        simp only [tl_be, (bo_w1 σ hw).2, if_neg re_10, re_im1_15, if_neg h1, if_neg (fun z => (re_15 b).mp z h2), bo_waitsBy Hb.2.1 Hb.2.2.1, tl_oe]
      · refine ⟨-2, ?_, ?_⟩
        · unfold fX3_waits; simp only [tl_be, (bo_w1 σ hw).1, if_neg re_10, if_neg h1, if_neg h2]
        · unfold fX4_waits; simp only [tl_be, (bo_w1 σ hw).2, if_neg re_10, re_im1_15, if_neg h1, if_pos ((re_15 b).mpr h2), if_true]
  by_cases e0 : a = 0
  · exact key (Or.inl e0)
  · by_cases e1 : a = 1
    · exact key (Or.inr e1)
    · refine ⟨-2, ?_, ?_⟩
      · unfold fX3_waits; simp only [tl_be, bo_way, if_neg e0, if_neg e1, if_true]
      · unfold fX4_waits; simp only [tl_be, re_two, if_neg e0, if_neg e1, if_true]
/-! count -/
theorem re_countJ {σ c : tl_St} {he : Nat → Int32} {fl : Bool} {N h u t C j : Nat} (H : re_P σ c he fl N h u t C) (hj : j ≤ 8) : ∃ r, fX3_count σ (nI j) = some r ∧ fX4_count σ (nI j) = some r := by
  obtain ⟨⟨hC, hH, hu, hcu, hX, hXf, hM, hMf⟩, Hl, Hb, Hs⟩ := id H
  have hN := hC.2.2.2.1
  obtain ⟨l1, l2, l3, l4, l5, l6, l7, l8, l9, l10⟩ := id Hl
  have m0 := bo_many (w := 0) Hb.2.1 Hb.2.2.1
  have m1 := bo_many (w := 1) Hb.2.1 Hb.2.2.1
  have x0 := (Hb.2.2.2.2 0 (by omega)).1
  have x1 := (Hb.2.2.2.2 1 (by omega)).1
  rw [nI_0] at m0
  rw [show nI 1 = 1 from rfl] at m1
  simp only [Nat.mul_zero, Nat.add_zero, Nat.mul_one, Nat.reduceAdd] at x0 x1
  unfold fX3_count fX4_count fX4_chamberBy
  simp only [re_sumX hN hX, re_sumM hN hM, m0, m1, x0, x1, tl_oe, tl_be, hX.2.1, hM.2.1, l1, l2, l6, l7, l10, Hb.1, Hb.2.1, hXf, hMf, hM.1]
  rcases (show j = 0 ∨ j = 1 ∨ j = 2 ∨ j = 3 ∨ j = 4 ∨ j = 5 ∨ j = 6 ∨ j = 7 ∨ j = 8 by omega) with rfl | rfl | rfl | rfl | rfl | rfl | rfl | rfl | rfl
  · exact ⟨_, rfl, rfl⟩
  · exact ⟨_, rfl, rfl⟩
  · exact ⟨_, rfl, rfl⟩
  · cases fl
    · exact ⟨_, rfl, rfl⟩
    · exact ⟨_, rfl, rfl⟩
  · exact ⟨_, rfl, rfl⟩
  · exact ⟨_, rfl, rfl⟩
  · exact ⟨_, rfl, rfl⟩
  · exact ⟨_, rfl, rfl⟩
  · exact ⟨_, rfl, rfl⟩
theorem re_count {σ : tl_St} (H : re_R σ) (a : Int32) : ∃ r, fX3_count σ a = some r ∧ fX4_count σ a = some r := by
  obtain ⟨c, he, fl, N, h, u, t, C, H⟩ := H
  obtain ⟨⟨hC, hH, hu, hcu, hX, hXf, hM, hMf⟩, Hl, Hb, Hs⟩ := id H
  have HR : re_R σ := ⟨c, he, fl, N, h, u, t, C, H⟩
  have hN := hC.2.2.2.1
  by_cases hb : a < 0 ∨ 8 < a
  · have n := re_notN (m := 8) (by omega) hb
    have n0 : ¬ a = 0 := n 0 (by omega)
    have n1 : ¬ a = 1 := n 1 (by omega)
    have n2 : ¬ a = 2 := n 2 (by omega)
    have n3 : ¬ a = 3 := n 3 (by omega)
    have n4 : ¬ a = 4 := n 4 (by omega)
    have n5 : ¬ a = 5 := n 5 (by omega)
    have n6 : ¬ a = 6 := n 6 (by omega)
    have n7 : ¬ a = 7 := n 7 (by omega)
    have n8 : ¬ a = 8 := n 8 (by omega)
    refine ⟨-2, ?_, ?_⟩
    · unfold fX3_count
      rw [if_neg n0, if_neg n1, if_neg n2, if_neg n3, if_neg n4, if_neg n5, if_neg n6, if_neg n7, if_neg n8]
    · unfold fX4_count
      rw [if_neg n0, if_neg n1, if_neg n2, if_neg n3, if_neg n4, if_neg n5, if_neg n6, if_neg n7, if_neg n8]
  · obtain ⟨j, -, hj, rfl⟩ := re_rng (l := 0) (m := 8) rfl rfl (by omega) (by omega) (fun z => hb (Or.inl z)) (fun z => hb (Or.inr z))
    exact re_countJ H hj

