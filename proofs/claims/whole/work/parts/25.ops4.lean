/-! back, basin -/
theorem re_back {σ : tl_St} (H : re_R σ) : ∃ r σ1 σ2, fX3_back σ = some (r, σ1) ∧ fX4_back σ1 = some (r, σ2) ∧ re_R σ2 := by
  obtain ⟨c, he, fl, N, h, u, t, C, H⟩ := H
  obtain ⟨⟨hC, hH, hu, hcu, hX, hXf, hM, hMf⟩, Hl, Hb, Hs⟩ := id H
  have HR : re_R σ := ⟨c, he, fl, N, h, u, t, C, H⟩
  have hN := hC.2.2.2.1
  cases N with
  | zero =>
    refine ⟨-3, σ, σ, ?_, ?_, HR⟩
    · unfold fX3_back
      simp only [tl_be, hX.2.1]
      rw [if_pos (by decide)]
    · unfold fX4_back
      rw [hM.2.1, if_pos (by decide)]
  | succ n =>
    have hin : tl_in (nI n) 4 := sp_in (by omega) (by decide)
    have hcl : (nI n).toNatClampNeg = n := sp_cl (by omega)
    have hn0 : ¬ nI (n + 1) = 0 := nI_ne0 (by omega) (by omega)
    obtain ⟨r, q, hr, er, eq, hqr⟩ := hH n (by omega)
    have e6 := (hX.2.2.2 n (by omega)).2.2.2.2.2
    have m5 := (hM.2.2.2 n (by omega)).2.2.2.2
    by_cases hq : q = 0
    · subst hq
      have h0 : he n = 0 := eq
      obtain ⟨v, hv⟩ := re_and ⟨u, hu⟩ ⟨n, by omega⟩
      have hv : nI u &&& ((1 <<< (nI n &&& 31)) ^^^ (-1)) = nI v.val := hv
      refine ⟨nI n, tl_set (tl_set σ 1 2 (nI n)) 1 3 (nI v.val), tl_set (tl_set (tl_set (tl_set σ 1 2 (nI n)) 1 3 (nI v.val)) 34 7 (nI n)) 34 13 (nI v.val), ?_, ?_, ?_⟩
      · have e3 : tl_set σ 1 2 (nI n) 1 3 = nI u := by rw [sp_sn (by decide), hX.2.2.1, hcu]
        unfold fX3_back
        simp only [tl_be, hX.2.1, nI_pred, if_neg (nI_pos (n := n) (by omega)), if_pos hin, hcl, e6, h0, if_true, e3, hv]
      · obtain ⟨σ1, e1⟩ : ∃ z, z = tl_set (tl_set σ 1 2 (nI n)) 1 3 (nI v.val) := ⟨_, rfl⟩
        rw [← e1]
        have g : ∀ d, d ≠ 1 → σ1 d = σ d := fun d hd => by rw [e1, sp_n hd, sp_n hd]
        have e7 : tl_set σ1 34 7 (nI n) 34 13 = nI u := by rw [sp_sn (by decide), g 34 (by decide), hM.2.2.1, hcu]
        have e8 : (tl_set (tl_set σ1 34 7 (nI n)) 34 13 (nI v.val)) 34 7 = nI n := by rw [sp_sn (by decide), sp_ss]
        unfold fX4_back
        simp only [tl_be, g 34 (by decide), g 43 (by decide), hM.2.1, if_neg hn0, nI_pred, if_pos hin, hcl, m5, h0, sp_ss, e7, hv, e8]
        rw [if_pos (by decide)]
      · refine ⟨tl_set c 0 2 (nI v.val), he, fl, n, h, v.val, t, C, ⟨⟨?_, hC.2.1, hC.2.2.1, by omega, fun j hj => ?_⟩, fun j hj => ?_, v.isLt, sp_ss, ⟨?_, ?_, ?_, fun j hj => ?_⟩, ?_, ⟨?_, ?_, ?_, fun j hj => ?_⟩, ?_⟩, Hl.cg ?_ ?_ ?_ ?_, Hb.cg ?_ ?_ ?_ ?_ ?_, Hs.cg ?_ ?_⟩
        · rw [sp_sn (by decide)]; exact hC.1
        · rw [sp_n (d := 1) (by decide), sp_n (d := 2) (by decide), sp_n (d := 3) (by decide), sp_n (d := 4) (by decide)]; exact hC.2.2.2.2 j (by omega)
        · rw [sp_n (d := 2) (by decide)]; exact hH j (by omega)
        · simpa [tl_set, tl_setC, upd] using hX.1
        · simp [tl_set, tl_setC, upd]
        · simp [tl_set, tl_setC, upd]
        · simpa [tl_set, tl_setC, upd] using hX.2.2.2 j (by omega)
        · simpa [tl_set, tl_setC, upd] using hXf
        · simpa [tl_set, tl_setC, upd] using hM.1
        · simp [tl_set, tl_setC, upd]
        · simp [tl_set, tl_setC, upd]
        · simpa [tl_set, tl_setC, upd] using hM.2.2.2 j (by omega)
        · simpa [tl_set, tl_setC, upd] using hMf
        all_goals (intros; repeat (first | rfl | rw [sp_n (by omega)] | rw [sp_sn (by omega)]))
    · have h0 : ¬ he n = 0 := by rw [eq]; exact nI_ne0 (by omega) (by omega)
      have h0' : ¬ he n ≤ 0 := by rw [eq]; exact nI_nle (by omega) (by omega)
      refine ⟨-3, σ, σ, ?_, ?_, HR⟩
      · unfold fX3_back
        simp only [tl_be, hX.2.1, nI_pred, if_neg (nI_pos (n := n) (by omega)), if_pos hin, hcl, e6, if_neg h0]
      · unfold fX4_back
        simp only [tl_be, hM.2.1, if_neg hn0, nI_pred, if_pos hin, hcl, m5, if_neg h0']
/-- a basin more, on the abstract side -/
def re_ad (c : tl_St) (N : Nat) (b r w : Int32) : tl_St := tl_set (tl_set (tl_set (tl_set c 1 N b) 2 N r) 3 N w) 4 N 0
def re_ok (b r w : Int32) : Prop := ¬ b < 0 ∧ ¬ 60 ≤ b ∧ ¬ r < 1 ∧ ¬ 60 < r ∧ ¬ w < 1 ∧ ¬ 3 < w
theorem re_ok59 {b : Int32} (h : ¬ b < 0) : 59 < b ↔ 60 ≤ b := by
  have := re_hi 60 (by omega) b h
  rwa [show nI 60 - 1 = 59 from by decide] at this
theorem re_may (σ : tl_St) (b r w : Int32) : (fX3_mayBeBasin σ b r w = 1 ∧ re_ok b r w) ∨ (fX3_mayBeBasin σ b r w = 0 ∧ ¬ re_ok b r w) := by
  unfold fX3_mayBeBasin re_ok
  simp only [tl_be]
  by_cases h1 : b < 0
  · rw [if_pos h1]; exact Or.inr ⟨rfl, fun z => z.1 h1⟩
  · rw [if_neg h1]
    by_cases h2 : 60 ≤ b
    · rw [if_pos h2]; exact Or.inr ⟨rfl, fun z => z.2.1 h2⟩
    · rw [if_neg h2]
      by_cases h3 : r < 1
      · rw [if_pos h3]; exact Or.inr ⟨rfl, fun z => z.2.2.1 h3⟩
      · rw [if_neg h3]
        by_cases h4 : 60 < r
        · rw [if_pos h4]; exact Or.inr ⟨rfl, fun z => z.2.2.2.1 h4⟩
        · rw [if_neg h4]
          by_cases h5 : w < 1
          · rw [if_pos h5]; exact Or.inr ⟨rfl, fun z => z.2.2.2.2.1 h5⟩
          · rw [if_neg h5]
            by_cases h6 : 3 < w
            · rw [if_pos h6]; exact Or.inr ⟨rfl, fun z => z.2.2.2.2.2 h6⟩
            · rw [if_neg h6]; exact Or.inl ⟨rfl, h1, h2, h3, h4, h5, h6⟩
theorem re_ad_C {c : tl_St} {N h : Nat} {b r w : Int32} (hC : sp_C c N h) (hN : N < 4) (ok : re_ok b r w) : sp_C (re_ad c N b r w) (N + 1) h := by
  unfold re_ad
  refine ⟨?_, hC.2.1, hC.2.2.1, by omega, fun i hi => ?_⟩
  · simpa [tl_set, tl_setC, upd] using hC.1
  · obtain ⟨o1, o2, o3, o4, o5, o6⟩ := ok
    by_cases hiN : i = N
    · subst hiN
      obtain ⟨x, hx, ex⟩ := nI_of o1
      have hx6 : x < 60 := by
        rcases Nat.lt_or_ge x 60 with q | q
        · exact q
        · exact absurd (by rw [ex]; exact (sp_le (a := 60) (by omega) (by omega)).mpr q) o2
      obtain ⟨y, hy1, hy2, ey⟩ := re_rng (l := 1) (m := 60) rfl rfl (by omega) (by omega) o3 o4
      obtain ⟨z, hz1, hz2, ez⟩ := re_rng (l := 1) (m := 3) rfl rfl (by omega) (by omega) o5 o6
      refine ⟨⟨x, hx6, ?_⟩, ⟨y, hy2, ?_⟩, ⟨z, by omega, ?_⟩, ⟨0, by omega, ?_⟩⟩
      · simp [tl_set, tl_setC, upd, ex]
      · simp [tl_set, tl_setC, upd, ey]
      · simp [tl_set, tl_setC, upd, ez]
      · simp [tl_set, tl_setC, upd, nI_0]
    · have := hC.2.2.2.2 i (by omega)
      simpa [tl_set, tl_setC, upd, hiN] using this
theorem re_ad_H {c : tl_St} {N : Nat} {he : Nat → Int32} {b r w : Int32} (hH : sp_H c N he) (ok : re_ok b r w) : sp_H (re_ad c N b r w) (N + 1) (upd he N 0) := by
  intro i hi
  unfold re_ad
  by_cases hiN : i = N
  · subst hiN
    obtain ⟨o1, o2, o3, o4, o5, o6⟩ := ok
    obtain ⟨y, hy1, hy2, ey⟩ := re_rng (l := 1) (m := 60) rfl rfl (by omega) (by omega) o3 o4
    refine ⟨y, 0, hy2, ?_, ?_, by omega⟩
    · simp [tl_set, tl_setC, upd, ey]
    · simp [upd, nI_0]
  · have := hH i (by omega)
    simpa [tl_set, tl_setC, upd, hiN] using this
theorem re_addX {σ c : tl_St} {he : Nat → Int32} {N : Nat} {b r w : Int32} (hN : N < 4) (hX : sp_RX 1 σ c he N) : ∃ σ', fX2_addBasin σ 1 b r w = some σ' ∧ sp_RX 1 σ' (re_ad c N b r w) (upd he N 0) (N + 1) ∧ (∀ d, d < 1 ∨ 7 < d → σ' d = σ d) ∧ (∀ k, k ≠ 2 → σ' 1 k = σ 1 k) := by
  have hin : tl_in (nI N) 4 := sp_in (by omega) (by decide)
  have hcl : (nI N).toNatClampNeg = N := sp_cl (by omega)
  have hlt : nI N < 4 := (sp_lt (b := 4) (by omega) (by omega)).mpr hN
  have hr : fX2_riseOf (tl_set (tl_set (tl_set σ (1 + 1) N b) (1 + 2) N r) (1 + 3) N w) w = sp_rise w := rfl
  refine ⟨tl_set (tl_set (tl_set (tl_set (tl_set (tl_set (tl_set σ (1 + 1) N b) (1 + 2) N r) (1 + 3) N w) (1 + 4) N (sp_rise w)) (1 + 5) N 0) (1 + 6) N 0) 1 2 (nI (N + 1)), ?_, ?_, ?_, ?_⟩
  · have g : ∀ (σ9 : tl_St) (cc : Nat) (v : Int32), cc ≠ 1 → σ9 1 2 = nI N → tl_set σ9 cc N v 1 2 = nI N := fun σ9 cc v h1 h2 => by rw [sp_n (Ne.symm h1)]; exact h2
    have g1 := g σ (1 + 1) b (by decide) hX.2.1
    have g2 := g _ (1 + 2) r (by decide) g1
    have g3 := g _ (1 + 3) w (by decide) g2
    have g4 := g _ (1 + 4) (sp_rise w) (by decide) g3
    have g5 := g _ (1 + 5) 0 (by decide) g4
    have g6 := g _ (1 + 6) 0 (by decide) g5
    unfold fX2_addBasin
    simp only [tl_be, hX.2.1, if_pos hlt, if_pos hin, hcl, hr, g6, nI_1]
  · refine ⟨?_, ?_, ?_, fun i hi => ?_⟩
    · simpa [tl_set, tl_setC, upd, re_ad] using hX.1
    · simp [tl_set, tl_setC, upd]
    · simpa [tl_set, tl_setC, upd, re_ad] using hX.2.2.1
    · by_cases hiN : i = N
      · subst hiN
        simp [tl_set, tl_setC, upd, re_ad]
      · have := hX.2.2.2 i (by omega)
        simpa [tl_set, tl_setC, upd, re_ad, hiN] using this
  · intro d hd
    rw [sp_n (by omega), sp_n (by omega), sp_n (by omega), sp_n (by omega), sp_n (by omega), sp_n (by omega), sp_n (by omega)]
  · intro k hk
    rw [sp_sn hk, sp_n (by decide), sp_n (by decide), sp_n (by decide), sp_n (by decide), sp_n (by decide), sp_n (by decide)]
theorem re_addM {σ c : tl_St} {he : Nat → Int32} {N : Nat} {b r w : Int32} (hN : N < 4) (hM : sp_RM σ c he N) (ok : re_ok b r w) : ∃ σ', fX4_basin σ b r w = some (nI (N + 1), σ') ∧ sp_RM σ' (re_ad c N b r w) (upd he N 0) (N + 1) ∧ (∀ d, d < 34 ∨ (34 < d ∧ d < 39) ∨ 43 < d → σ' d = σ d) ∧ (∀ k, k ≠ 7 → σ' 34 k = σ 34 k) := by
  have hin : tl_in (nI N) 4 := sp_in (by omega) (by decide)
  have hcl : (nI N).toNatClampNeg = N := sp_cl (by omega)
  have hne : ¬ nI N = 4 := fun e => absurd ((nI_eq (b := 4) (by omega) (by omega)).mp e) (by omega)
  obtain ⟨o1, o2, o3, o4, o5, o6⟩ := id ok
  have o2' : ¬ 59 < b := fun z => o2 ((re_ok59 o1).mp z)
  refine ⟨tl_set (tl_set (tl_set (tl_set (tl_set (tl_set σ 39 N b) 40 N r) 41 N w) 42 N 0) 43 N 0) 34 7 (nI (N + 1)), ?_, ?_, ?_, ?_⟩
  · unfold fX4_basin
    simp only [tl_be, re_i0_59, re_i1_60, re_i1_3, if_neg o1, if_neg o2', if_neg o3, if_neg o4, if_neg o5, if_neg o6, if_neg re_10]
    have g : ∀ (σ9 : tl_St) (cc : Nat) (v : Int32), cc ≠ 34 → σ9 34 7 = nI N → tl_set σ9 cc N v 34 7 = nI N := fun σ9 cc v h1 h2 => by rw [sp_n (Ne.symm h1)]; exact h2
    have g1 := g σ 39 b (by decide) hM.2.1
    have g2 := g _ 40 r (by decide) g1
    have g3 := g _ 41 w (by decide) g2
    have g4 := g _ 42 0 (by decide) g3
    have g5 := g _ 43 0 (by decide) g4
    simp only [hM.2.1, if_neg hne, if_pos hin, hcl, g1, g2, g3, g4, g5, nI_1, sp_ss]
  · refine ⟨?_, ?_, ?_, fun i hi => ?_⟩
    · simpa [tl_set, tl_setC, upd, re_ad] using hM.1
    · simp [tl_set, tl_setC, upd]
    · simpa [tl_set, tl_setC, upd, re_ad] using hM.2.2.1
    · by_cases hiN : i = N
      · subst hiN
        simp [tl_set, tl_setC, upd, re_ad]
      · have := hM.2.2.2 i (by omega)
        simpa [tl_set, tl_setC, upd, re_ad, hiN] using this
  · intro d hd
    rw [sp_n (by omega), sp_n (by omega), sp_n (by omega), sp_n (by omega), sp_n (by omega), sp_n (by omega)]
  · intro k hk
    rw [sp_sn hk, sp_n (by decide), sp_n (by decide), sp_n (by decide), sp_n (by decide), sp_n (by decide)]
theorem re_refM {σ : tl_St} {b r w : Int32} (no : ¬ re_ok b r w) : fX4_basin σ b r w = some (-2, σ) := by
  unfold fX4_basin
  simp only [tl_be, re_i0_59, re_i1_60, re_i1_3]
  by_cases h1 : b < 0
  · rw [if_pos h1, if_pos rfl]
  · rw [if_neg h1]
    by_cases h2 : 59 < b
    · rw [if_pos h2, if_pos rfl]
    · rw [if_neg h2, if_neg re_10]
      by_cases h3 : r < 1
      · rw [if_pos h3, if_pos rfl]
      · rw [if_neg h3]
        by_cases h4 : 60 < r
        · rw [if_pos h4, if_pos rfl]
        · rw [if_neg h4, if_neg re_10]
          by_cases h5 : w < 1
          · rw [if_pos h5, if_pos rfl]
          · rw [if_neg h5]
            by_cases h6 : 3 < w
            · rw [if_pos h6, if_pos rfl]
            · exact absurd ⟨h1, fun z => h2 ((re_ok59 h1).mpr z), h3, h4, h5, h6⟩ no
theorem re_fullM {σ : tl_St} {b r w : Int32} (ok : re_ok b r w) (h4 : σ 34 7 = 4) : fX4_basin σ b r w = some (-4, σ) := by
  obtain ⟨o1, o2, o3, o4, o5, o6⟩ := id ok
  have o2' : ¬ 59 < b := fun z => o2 ((re_ok59 o1).mp z)
  unfold fX4_basin
  simp only [tl_be, re_i0_59, re_i1_60, re_i1_3, if_neg o1, if_neg o2', if_neg o3, if_neg o4, if_neg o5, if_neg o6, if_neg re_10, if_pos h4]
theorem sp_RX.cg {w : Nat} {σ σ' c : tl_St} {he : Nat → Int32} {N : Nat} (h : sp_RX w σ c he N) (g : ∀ d, w ≤ d → d < w + 7 → σ' d = σ d) : sp_RX w σ' c he N := by
  unfold sp_RX at h ⊢
  rw [g w (by omega) (by omega), g (w + 1) (by omega) (by omega), g (w + 2) (by omega) (by omega), g (w + 3) (by omega) (by omega), g (w + 4) (by omega) (by omega), g (w + 5) (by omega) (by omega), g (w + 6) (by omega) (by omega)]
  exact h
theorem sp_RM.cg {σ σ' c : tl_St} {he : Nat → Int32} {N : Nat} (h : sp_RM σ c he N) (g : ∀ d, 33 < d → d < 44 → σ' d = σ d) : sp_RM σ' c he N := by
  unfold sp_RM at h ⊢
  rw [g 34 (by omega) (by omega), g 39 (by omega) (by omega), g 40 (by omega) (by omega), g 41 (by omega) (by omega), g 42 (by omega) (by omega), g 43 (by omega) (by omega)]
  exact h
theorem re_basin {σ : tl_St} (H : re_R σ) (b r w : Int32) : ∃ a σ1 σ2, fX3_basin σ b r w = some (a, σ1) ∧ fX4_basin σ1 b r w = some (a, σ2) ∧ re_R σ2 := by
  obtain ⟨c, he, fl, N, h, u, t, C, H⟩ := H
  obtain ⟨⟨hC, hH, hu, hcu, hX, hXf, hM, hMf⟩, Hl, Hb, Hs⟩ := id H
  have HR : re_R σ := ⟨c, he, fl, N, h, u, t, C, H⟩
  have hN := hC.2.2.2.1
  rcases re_may σ b r w with ⟨h1, ok⟩ | ⟨h1, no⟩
  · by_cases h4 : N = 4
    · subst h4
      refine ⟨-4, σ, σ, ?_, re_fullM ok hM.2.1, HR⟩
      unfold fX3_basin
      simp only [tl_be, h1, if_neg re_10, hX.2.1]
      rw [if_neg (by decide)]
    · have hN4 : N < 4 := by omega
      obtain ⟨σ1, z1, x1, x2, x3⟩ := re_addX (b := b) (r := r) (w := w) hN4 hX
      have hM1 : sp_RM σ1 c he N := hM.cg (fun d _ _ => x2 d (by omega))
      obtain ⟨σ2, z2, m1, m2, m3⟩ := re_addM hN4 hM1 ok
      refine ⟨nI (N + 1), σ1, σ2, ?_, z2, re_ad c N b r w, upd he N 0, fl, N + 1, h, u, t, C, ⟨re_ad_C hC hN4 ok, re_ad_H hH ok, hu, ?_, x1.cg (fun d h1 h2 => m2 d (by omega)), ?_, m1, ?_⟩, Hl.cg ?_ ?_ ?_ ?_, Hb.cg ?_ ?_ ?_ ?_ ?_, Hs.cg ?_ ?_⟩
      · unfold fX3_basin
        have hlt : nI N < 4 := (sp_lt (a := N) (b := 4) (by omega) (by omega)).mpr hN4
        simp only [tl_be, h1, if_neg re_10, hX.2.1, if_pos hlt, z1, tl_oe, x1.2.1]
      · simpa [re_ad, tl_set, tl_setC, upd] using hcu
      · rw [m2 1 (by omega), x3 1 (by decide), hXf]
        simp [re_ad, tl_set, tl_setC, upd]
      · rw [m3 6 (by decide), x2 34 (by omega)]; exact hMf
      · intro k hk; rw [m2 0 (by omega), x2 0 (by omega)]
      · rw [m2 33 (by omega), x2 33 (by omega)]
      · intro k hk; rw [m3 k (by omega), x2 34 (by omega)]
      · rw [m2 49 (by omega), x2 49 (by omega)]
      · rw [m2 0 (by omega), x2 0 (by omega)]
      · intro d _ _; rw [m2 d (by omega), x2 d (by omega)]
      · rw [m3 14 (by decide), x2 34 (by omega)]
      · rw [m2 44 (by omega), x2 44 (by omega)]
      · rw [m2 45 (by omega), x2 45 (by omega)]
      · intro d _ _; rw [m2 d (by omega), x2 d (by omega)]
      · intro d _ _; rw [m2 d (by omega), x2 d (by omega)]
  · refine ⟨-2, σ, σ, ?_, re_refM no, HR⟩
    unfold fX3_basin
    simp only [tl_be, h1, if_true]

