/-! out, leak, info -/
theorem re_xor : ∀ (u : Fin 16) (i : Fin 4), ∃ v : Fin 16, nI u.val ^^^ (1 <<< (nI i.val &&& 31)) = nI v.val := by decide
theorem re_and : ∀ (u : Fin 16) (i : Fin 4), ∃ v : Fin 16, nI u.val &&& ((1 <<< (nI i.val &&& 31)) ^^^ (-1)) = nI v.val := by decide
theorem re_out {σ : tl_St} (H : re_R σ) (a : Int32) : ∃ r σ1 σ2, fX3_out σ a = (r, σ1) ∧ fX4_out σ1 a = (r, σ2) ∧ re_R σ2 := by
  obtain ⟨c, he, fl, N, h, u, t, C, H⟩ := H
  obtain ⟨⟨hC, hH, hu, hcu, hX, hXf, hM, hMf⟩, Hl, Hb, Hs⟩ := id H
  have HR : re_R σ := ⟨c, he, fl, N, h, u, t, C, H⟩
  have hN := hC.2.2.2.1
  rcases re_isBasinX hX.2.1 hN a with ⟨h0, -⟩ | ⟨i, hi, rfl, h1⟩
  · refine ⟨-2, σ, σ, ?_, ?_, HR⟩
    · unfold fX3_out; simp only [tl_be, h0, if_true]
    · unfold fX4_out; simp only [tl_be, re_isBasin hX.2.1 hM.2.1 hN, h0, if_true]
  · obtain ⟨v, hv⟩ := re_xor ⟨u, hu⟩ ⟨i, by omega⟩
    have hv : nI u ^^^ (1 <<< (nI i &&& 31)) = nI v.val := hv
    refine ⟨nI v.val, tl_set σ 1 3 (nI v.val), tl_set (tl_set σ 1 3 (nI v.val)) 34 13 (nI v.val), ?_, ?_, ?_⟩
    · unfold fX3_out
      simp only [tl_be, h1, if_neg re_10, hX.2.2.1, hcu, hv, sp_ss]
    · have hb : fX4_isBasin (tl_set σ 1 3 (nI v.val)) (nI i) = 1 := by
        rw [re_isBasin (N := N) (by rw [sp_sn (by decide)]; exact hX.2.1) (by rw [sp_n (by decide)]; exact hM.2.1) hN]
        have : fX3_isBasin (tl_set σ 1 3 (nI v.val)) (nI i) = fX3_isBasin σ (nI i) := by
          unfold fX3_isBasin; rw [sp_sn (by decide)]
        rw [this, h1]
      have e13 : tl_set σ 1 3 (nI v.val) 34 13 = nI u := by rw [sp_n (by decide), hM.2.2.1, hcu]
      unfold fX4_out
      simp only [tl_be, hb, if_neg re_10, e13, hv, sp_ss]
    · refine ⟨tl_set c 0 2 (nI v.val), he, fl, N, h, v.val, t, C, ⟨⟨?_, hC.2.1, hC.2.2.1, hN, fun j hj => ?_⟩, fun j hj => ?_, v.isLt, sp_ss, ⟨?_, ?_, ?_, fun j hj => ?_⟩, ?_, ⟨?_, ?_, ?_, fun j hj => ?_⟩, ?_⟩, Hl.cg ?_ ?_ ?_ ?_, Hb.cg ?_ ?_ ?_ ?_ ?_, Hs.cg ?_ ?_⟩
      · rw [sp_sn (by decide)]; exact hC.1
      · rw [sp_n (d := 1) (by decide), sp_n (d := 2) (by decide), sp_n (d := 3) (by decide), sp_n (d := 4) (by decide)]; exact hC.2.2.2.2 j hj
      · rw [sp_n (d := 2) (by decide)]; exact hH j hj
      · simpa [tl_set, tl_setC, upd] using hX.1
      · simpa [tl_set, tl_setC, upd] using hX.2.1
      · simp [tl_set, tl_setC, upd]
      · simpa [tl_set, tl_setC, upd] using hX.2.2.2 j hj
      · simpa [tl_set, tl_setC, upd] using hXf
      · simpa [tl_set, tl_setC, upd] using hM.1
      · simpa [tl_set, tl_setC, upd] using hM.2.1
      · simp [tl_set, tl_setC, upd]
      · simpa [tl_set, tl_setC, upd] using hM.2.2.2 j hj
      · simpa [tl_set, tl_setC, upd] using hMf
      all_goals (intros; repeat (first | rfl | rw [sp_n (by omega)] | rw [sp_sn (by omega)]))
theorem re_leak {σ : tl_St} (H : re_R σ) (a b : Int32) : ∃ r σ1 σ2, fX3_leak σ a b = some (r, σ1) ∧ fX4_leak σ1 a b = some (r, σ2) ∧ re_R σ2 := by
  obtain ⟨c, he, fl, N, h, u, t, C, H⟩ := H
  obtain ⟨⟨hC, hH, hu, hcu, hX, hXf, hM, hMf⟩, Hl, Hb, Hs⟩ := id H
  have HR : re_R σ := ⟨c, he, fl, N, h, u, t, C, H⟩
  have hN := hC.2.2.2.1
  rcases re_isBasinX hX.2.1 hN a with ⟨h0, -⟩ | ⟨i, hi, rfl, h1⟩
  · refine ⟨-2, σ, σ, ?_, ?_, HR⟩
    · unfold fX3_leak; simp only [tl_be, h0, if_true]
    · unfold fX4_leak; simp only [tl_be, re_isBasin hX.2.1 hM.2.1 hN, h0, if_true]
  · have hb : ∀ v : Int32, fX4_isBasin (tl_set σ (1 + 5) i v) (nI i) = 1 := by
      intro v
      rw [re_isBasin (N := N) (by rw [sp_n (by decide)]; exact hX.2.1) (by rw [sp_n (by decide)]; exact hM.2.1) hN]
      have : fX3_isBasin (tl_set σ (1 + 5) i v) (nI i) = fX3_isBasin σ (nI i) := by
        unfold fX3_isBasin; rw [sp_n (by decide)]
      rw [this, h1]
    have hin : tl_in (nI i) 4 := sp_in (by omega) (by decide)
    have hcl : (nI i).toNatClampNeg = i := sp_cl (by omega)
    by_cases h2 : b < 0
    · refine ⟨-2, σ, σ, ?_, ?_, HR⟩
      · unfold fX3_leak; simp only [tl_be, h1, if_neg re_10, if_pos h2]
      · unfold fX4_leak; simp only [tl_be, re_isBasin hX.2.1 hM.2.1 hN, h1, if_neg re_10, re_i0_3, if_pos h2, if_true]
    · by_cases h3 : 3 < b
      · refine ⟨-2, σ, σ, ?_, ?_, HR⟩
        · unfold fX3_leak; simp only [tl_be, h1, if_neg re_10, if_neg h2, if_neg (Int32.not_le.mpr h3)]
        · unfold fX4_leak; simp only [tl_be, re_isBasin hX.2.1 hM.2.1 hN, h1, if_neg re_10, re_i0_3, if_neg h2, if_pos h3, if_true]
      · obtain ⟨j, -, hj, rfl⟩ := re_rng (l := 0) (m := 3) rfl rfl (by omega) (by omega) h2 h3
        refine ⟨c 4 i, tl_set σ (1 + 5) i (nI j), tl_set (tl_set σ (1 + 5) i (nI j)) 42 i (nI j), ?_, ?_, ?_⟩
        · unfold fX3_leak
          simp only [tl_be, h1, if_neg re_10, if_neg h2, if_pos (Int32.not_lt.mp h3), if_pos hin, hcl, (hX.2.2.2 i hi).2.2.2.2.1]
        · unfold fX4_leak
          simp only [tl_be, hb, if_neg re_10, re_i0_3, if_neg h2, if_neg h3, if_pos hin, hcl]
          rw [sp_n (d := 42) (by decide), (hM.2.2.2 i hi).2.2.2.1]
        · refine ⟨tl_set c 4 i (nI j), he, fl, N, h, u, t, C, ⟨⟨?_, hC.2.1, hC.2.2.1, hN, fun k hk => ?_⟩, fun k hk => ?_, hu, ?_, ⟨?_, ?_, ?_, fun k hk => ?_⟩, ?_, ⟨?_, ?_, ?_, fun k hk => ?_⟩, ?_⟩, Hl.cg ?_ ?_ ?_ ?_, Hb.cg ?_ ?_ ?_ ?_ ?_, Hs.cg ?_ ?_⟩
          · rw [sp_n (by decide)]; exact hC.1
          · obtain ⟨e1, e2, e3, e4⟩ := hC.2.2.2.2 k hk
            rw [sp_n (d := 1) (by decide), sp_n (d := 2) (by decide), sp_n (d := 3) (by decide)]
            refine ⟨e1, e2, e3, ?_⟩
            by_cases hki : k = i
            · subst hki; exact ⟨j, hj, sp_ss⟩
            · rw [sp_sn hki]; exact e4
          · rw [sp_n (d := 2) (by decide)]; exact hH k hk
          · rw [sp_n (by decide)]; exact hcu
          · simpa [tl_set, tl_setC, upd] using hX.1
          · simpa [tl_set, tl_setC, upd] using hX.2.1
          · simpa [tl_set, tl_setC, upd] using hX.2.2.1
          · obtain ⟨e1, e2, e3, e4, e5, e6⟩ := hX.2.2.2 k hk
            simp [tl_set, tl_setC, upd] at e1 e2 e3 e4 e5 e6 ⊢
            exact ⟨e1, e2, e3, e4, by rw [e5], e6⟩
          · simpa [tl_set, tl_setC, upd] using hXf
          · simpa [tl_set, tl_setC, upd] using hM.1
          · simpa [tl_set, tl_setC, upd] using hM.2.1
          · simpa [tl_set, tl_setC, upd] using hM.2.2.1
          · obtain ⟨e1, e2, e3, e4, e5⟩ := hM.2.2.2 k hk
            simp [tl_set, tl_setC, upd] at e1 e2 e3 e4 e5 ⊢
            exact ⟨e1, e2, e3, by rw [e4], e5⟩
          · simpa [tl_set, tl_setC, upd] using hMf
          all_goals (intros; repeat (first | rfl | rw [sp_n (by omega)] | rw [sp_sn (by omega)]))
theorem re_infoBy {σ c : tl_St} {he : Nat → Int32} {N h i : Nat} {b : Int32} (hC : sp_C c N h) (hH : sp_H c N he) (hX : sp_RX 1 σ c he N) (hM : sp_RM σ c he N) (hi : i < N) (h0 : ¬ b < 0) (h6 : ¬ 6 < b) : ∃ r, fX3_info σ (nI i) b = some r ∧ fX4_infoBy σ (nI i) b = some r := by
  have hN := hC.2.2.2.1
  have hin : tl_in (nI i) 4 := sp_in (by omega) (by decide)
  have hcl : (nI i).toNatClampNeg = i := sp_cl (by omega)
  have hb : fX3_isBasin σ (nI i) = 1 := by
    rcases re_isBasinX hX.2.1 hN (nI i) with ⟨-, h | h⟩ | ⟨i', hi', -, h⟩
    · exact absurd h (nI_pos (by omega))
    · exact absurd ((sp_le (by omega) (by omega)).mp h) (by omega)
    · exact h
  obtain ⟨e1, e2, e3, e4, e5, e6⟩ := hX.2.2.2 i hi
  obtain ⟨m1, m2, m3, m4, m5⟩ := hM.2.2.2 i hi
  obtain ⟨r, q, hr, er, eq, hqr⟩ := hH i hi
  have hl1 := sp_levelX hC hX hi (q := q) (by omega)
  have hl2 := sp_levelOf hC hM hi (nI q)
  rw [← eq] at hl1 hl2
  unfold fX3_info fX4_infoBy
  simp only [tl_be, hb, if_neg re_10, if_pos hin, hcl, e1, e2, e3, e5, e6, m1, m2, m3, m4, m5, hl1, hl2, tl_oe, fX2_isOut, hX.2.2.1, hM.2.2.1]
  obtain ⟨j, -, hj, rfl⟩ := re_rng (l := 0) (m := 6) rfl rfl (by omega) (by omega) h0 h6
  rcases (show j = 0 ∨ j = 1 ∨ j = 2 ∨ j = 3 ∨ j = 4 ∨ j = 5 ∨ j = 6 by omega) with rfl | rfl | rfl | rfl | rfl | rfl | rfl
  · exact ⟨_, rfl, rfl⟩
  · exact ⟨_, rfl, rfl⟩
  · exact ⟨_, rfl, rfl⟩
  · exact ⟨_, rfl, rfl⟩
  · exact ⟨_, rfl, rfl⟩
  · exact ⟨_, rfl, rfl⟩
  · rcases sp_bit (c 0 2 >>> (nI i &&& 31)) with hu | hu
    · refine ⟨0, ?_, ?_⟩
      · rw [if_pos hu]; rfl
      · rw [hu]; rfl
    · refine ⟨1, ?_, ?_⟩
      · rw [hu]; rfl
      · rw [hu]; rfl
theorem re_info {σ : tl_St} (H : re_R σ) (a b : Int32) : ∃ r, fX3_info σ a b = some r ∧ fX4_info σ a b = some r := by
  obtain ⟨c, he, fl, N, h, u, t, C, H⟩ := H
  obtain ⟨⟨hC, hH, hu, hcu, hX, hXf, hM, hMf⟩, Hl, Hb, Hs⟩ := id H
  have HR : re_R σ := ⟨c, he, fl, N, h, u, t, C, H⟩
  have hN := hC.2.2.2.1
  rcases re_isBasinX hX.2.1 hN a with ⟨h0, -⟩ | ⟨i, hi, rfl, h1⟩
  · refine ⟨-2, ?_, ?_⟩
    · unfold fX3_info; simp only [tl_be, h0, if_true]
    · unfold fX4_info; simp only [tl_be, re_isBasin hX.2.1 hM.2.1 hN, h0, if_true]
  · have key : b < 0 ∨ 6 < b → fX3_info σ (nI i) b = some (-2) := by
      intro hb
      have n : ∀ k : Nat, k ≤ 6 → ¬ b = nI k := by
        intro k hk e
        subst e
        rcases hb with q | q
        · exact nI_pos (by omega) q
        · exact absurd ((sp_lt (a := 6) (by omega) (by omega)).mp q) (by omega)
      have n0 : ¬ b = 0 := n 0 (by omega)
      have n1 : ¬ b = 1 := n 1 (by omega)
      have n2 : ¬ b = 2 := n 2 (by omega)
      have n3 : ¬ b = 3 := n 3 (by omega)
      have n4 : ¬ b = 4 := n 4 (by omega)
      have n5 : ¬ b = 5 := n 5 (by omega)
      have n6 : ¬ b = 6 := n 6 (by omega)
      unfold fX3_info
      simp only [tl_be, h1, if_neg re_10, if_neg n0, if_neg n1, if_neg n2, if_neg n3, if_neg n4, if_neg n5, if_neg n6]
    by_cases h2 : b < 0
    · refine ⟨-2, key (Or.inl h2), ?_⟩
      unfold fX4_info
      simp only [tl_be, re_isBasin hX.2.1 hM.2.1 hN, h1, if_neg re_10, re_i0_6, if_pos h2, if_true]
    · by_cases h3 : 6 < b
      · refine ⟨-2, key (Or.inr h3), ?_⟩
        unfold fX4_info
        simp only [tl_be, re_isBasin hX.2.1 hM.2.1 hN, h1, if_neg re_10, re_i0_6, if_neg h2, if_pos h3, if_true]
      · obtain ⟨r, z1, z2⟩ := re_infoBy hC hH hX hM hi h2 h3
        refine ⟨r, z1, ?_⟩
        unfold fX4_info
        simp only [tl_be, re_isBasin hX.2.1 hM.2.1 hN, h1, if_neg re_10, re_i0_6, if_neg h2, if_neg h3, z2, tl_oe]

