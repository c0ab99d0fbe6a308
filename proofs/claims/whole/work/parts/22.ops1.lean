theorem re_i0_1 (σ : tl_St) (a : Int32) : fX4_in σ a.toInt64 0 1 = if a < 0 then 0 else if 1 < a then 0 else 1 := by
  have h := re_in σ a 0 1
  rwa [show (0 : Int32).toInt64 = 0 from by decide, show (1 : Int32).toInt64 = 1 from by decide] at h
theorem re_i0_2 (σ : tl_St) (a : Int32) : fX4_in σ a.toInt64 0 2 = if a < 0 then 0 else if 2 < a then 0 else 1 := by
  have h := re_in σ a 0 2
  rwa [show (0 : Int32).toInt64 = 0 from by decide, show (2 : Int32).toInt64 = 2 from by decide] at h
theorem re_i0_3 (σ : tl_St) (a : Int32) : fX4_in σ a.toInt64 0 3 = if a < 0 then 0 else if 3 < a then 0 else 1 := by
  have h := re_in σ a 0 3
  rwa [show (0 : Int32).toInt64 = 0 from by decide, show (3 : Int32).toInt64 = 3 from by decide] at h
theorem re_i0_4 (σ : tl_St) (a : Int32) : fX4_in σ a.toInt64 0 4 = if a < 0 then 0 else if 4 < a then 0 else 1 := by
  have h := re_in σ a 0 4
  rwa [show (0 : Int32).toInt64 = 0 from by decide, show (4 : Int32).toInt64 = 4 from by decide] at h
theorem re_i0_6 (σ : tl_St) (a : Int32) : fX4_in σ a.toInt64 0 6 = if a < 0 then 0 else if 6 < a then 0 else 1 := by
  have h := re_in σ a 0 6
  rwa [show (0 : Int32).toInt64 = 0 from by decide, show (6 : Int32).toInt64 = 6 from by decide] at h
theorem re_i0_8 (σ : tl_St) (a : Int32) : fX4_in σ a.toInt64 0 8 = if a < 0 then 0 else if 8 < a then 0 else 1 := by
  have h := re_in σ a 0 8
  rwa [show (0 : Int32).toInt64 = 0 from by decide, show (8 : Int32).toInt64 = 8 from by decide] at h
theorem re_i0_40 (σ : tl_St) (a : Int32) : fX4_in σ a.toInt64 0 40 = if a < 0 then 0 else if 40 < a then 0 else 1 := by
  have h := re_in σ a 0 40
  rwa [show (0 : Int32).toInt64 = 0 from by decide, show (40 : Int32).toInt64 = 40 from by decide] at h
theorem re_i0_59 (σ : tl_St) (a : Int32) : fX4_in σ a.toInt64 0 59 = if a < 0 then 0 else if 59 < a then 0 else 1 := by
  have h := re_in σ a 0 59
  rwa [show (0 : Int32).toInt64 = 0 from by decide, show (59 : Int32).toInt64 = 59 from by decide] at h
theorem re_i1_60 (σ : tl_St) (a : Int32) : fX4_in σ a.toInt64 1 60 = if a < 1 then 0 else if 60 < a then 0 else 1 := by
  have h := re_in σ a 1 60
  rwa [show (1 : Int32).toInt64 = 1 from by decide, show (60 : Int32).toInt64 = 60 from by decide] at h
theorem re_i1_3 (σ : tl_St) (a : Int32) : fX4_in σ a.toInt64 1 3 = if a < 1 then 0 else if 3 < a then 0 else 1 := by
  have h := re_in σ a 1 3
  rwa [show (1 : Int32).toInt64 = 1 from by decide, show (3 : Int32).toInt64 = 3 from by decide] at h
theorem re_im1_15 (σ : tl_St) (a : Int32) : fX4_in σ a.toInt64 (-1) 15 = if a < (-1) then 0 else if 15 < a then 0 else 1 := by
  have h := re_in σ a (-1) 15
  rwa [show ((-1) : Int32).toInt64 = (-1) from by decide, show (15 : Int32).toInt64 = 15 from by decide] at h
theorem re_im1_59 (σ : tl_St) (a : Int32) : fX4_in σ a.toInt64 (-1) 59 = if a < (-1) then 0 else if 59 < a then 0 else 1 := by
  have h := re_in σ a (-1) 59
  rwa [show ((-1) : Int32).toInt64 = (-1) from by decide, show (59 : Int32).toInt64 = 59 from by decide] at h
theorem re_1 : (1 : Int32) = nI 1 := rfl
theorem re_lt1 (a : Int32) : a < 1 ↔ ¬ 0 < a := by rw [← Int32.not_le, sp_pos1]
theorem re_f0 (fl : Bool) : sp_f fl = 0 ↔ fl = false := by cases fl <;> decide
theorem re_x0 {c : tl_St} {N h : Nat} {fl : Bool} (hC : sp_C c N h) : (if fl then c 0 0 else 0) = (0 : Int32) ↔ fl = false := by
  cases fl with
  | false => simp
  | true =>
    have : ¬ nI h = 0 := nI_ne0 (by have := hC.2.1; omega) (by have := hC.2.2.1; omega)
    simp [hC.1, this]
theorem re_rng {lo hi : Int32} {l m : Nat} (el : lo = nI l) (eh : hi = nI m) (hm : m < 2 ^ 31) (hl : l ≤ m) {a : Int32} (h1 : ¬ a < lo) (h2 : ¬ hi < a) : ∃ j, l ≤ j ∧ j ≤ m ∧ a = nI j := by
  subst el; subst eh
  have h1' := Int32.not_lt.mp h1
  have h0 : ¬ a < 0 := by
    intro q
    have : nI l < 0 := Int32.lt_of_le_of_lt h1' q
    exact nI_pos (by omega) this
  obtain ⟨j, hj, rfl⟩ := nI_of h0
  exact ⟨j, (sp_le (by omega) (by omega)).mp h1', (sp_le (by omega) (by omega)).mp (Int32.not_lt.mp h2), rfl⟩
/-! head -/
theorem re_head {σ : tl_St} (H : re_R σ) (a : Int32) : ∃ r σ1 σ2, fX3_head σ a = (r, σ1) ∧ fX4_head σ1 a = (r, σ2) ∧ re_R σ2 := by
  obtain ⟨c, he, fl, N, h, u, t, C, H⟩ := H
  obtain ⟨⟨hC, hH, hu, hcu, hX, hXf, hM, hMf⟩, Hl, Hb, Hs⟩ := id H
  have HR : re_R σ := ⟨c, he, fl, N, h, u, t, C, H⟩
  unfold fX3_head fX4_head
  simp only [tl_be, re_i1_60, hXf, re_x0 hC]
  by_cases h1 : a < 1
  · exact ⟨-2, σ, σ, by rw [if_pos h1], by rw [if_pos h1, if_pos rfl], HR⟩
  · by_cases h2 : 60 < a
    · exact ⟨-2, σ, σ, by rw [if_neg h1, if_neg (Int32.not_le.mpr h2)], by rw [if_neg h1, if_pos h2, if_pos rfl], HR⟩
    · rw [if_neg h1, if_pos (Int32.not_lt.mp h2)]
      obtain ⟨j, hj1, hj2, ej⟩ := re_rng (l := 1) (m := 60) rfl rfl (by omega) (by omega) h1 h2
      cases fl with
      | true =>
        refine ⟨-3, σ, σ, by simp, ?_, HR⟩
        rw [if_neg h1, if_neg h2, if_neg (by decide), hMf]
        rfl
      | false =>
        refine ⟨σ 1 0, tl_set σ 1 0 a, tl_set (tl_set σ 1 0 a) 34 5 a, by simp, ?_, ?_⟩
        · rw [if_neg h1, if_neg h2, if_neg (by decide), sp_n (by decide), hMf, if_pos (show sp_f false = 0 from rfl), hM.1, hX.1]
        · refine ⟨tl_set c 0 0 a, he, false, N, j, u, t, C, ⟨⟨?_, hj1, hj2, hC.2.2.2.1, fun i hi => ?_⟩, fun i hi => ?_, hu, ?_, ⟨?_, ?_, ?_, fun i hi => ?_⟩, ?_, ⟨?_, ?_, ?_, fun i hi => ?_⟩, ?_⟩, Hl.cg ?_ ?_ ?_ ?_, Hb.cg ?_ ?_ ?_ ?_ ?_, Hs.cg ?_ ?_⟩
          · rw [sp_ss]; exact ej
          · rw [sp_n (d := 1) (by decide), sp_n (d := 2) (by decide), sp_n (d := 3) (by decide), sp_n (d := 4) (by decide)]; exact hC.2.2.2.2 i hi
          · rw [sp_n (d := 2) (by decide)]; exact hH i hi
          · rw [sp_sn (by decide)]; exact hcu
          · simp [tl_set, tl_setC, upd]
          · simpa [tl_set, tl_setC, upd] using hX.2.1
          · simpa [tl_set, tl_setC, upd] using hX.2.2.1
          · simpa [tl_set, tl_setC, upd] using hX.2.2.2 i hi
          · simpa [tl_set, tl_setC, upd] using hXf
          · simp [tl_set, tl_setC, upd]
          · simpa [tl_set, tl_setC, upd] using hM.2.1
          · simpa [tl_set, tl_setC, upd] using hM.2.2.1
          · simpa [tl_set, tl_setC, upd] using hM.2.2.2 i hi
          · simpa [tl_set, tl_setC, upd] using hMf
          · intro k _; simp [tl_set, tl_setC, upd]
          · simp [tl_set, tl_setC, upd]
          · intro k hk
            have : k ≠ 5 := by omega
            simp [tl_set, tl_setC, upd, this]
          · simp [tl_set, tl_setC, upd]
          · simp [tl_set, tl_setC, upd]
          · intro d h1 h2
            rw [sp_n (by omega), sp_n (by omega)]
          · simp [tl_set, tl_setC, upd]
          · simp [tl_set, tl_setC, upd]
          · simp [tl_set, tl_setC, upd]
          · intro d h1 h2
            rw [sp_n (by omega), sp_n (by omega)]
          · intro d h1 h2
            rw [sp_n (by omega), sp_n (by omega)]
