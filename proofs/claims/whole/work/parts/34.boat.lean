/-! a boat comes -/
theorem bo_q_cg {σ σ' : tl_St} {w C : Nat} (h : ∀ b, b < C → (re_wt σ' w b ↔ re_wt σ w b)) : re_q σ' w C = re_q σ w C := by
  unfold re_q
  apply List.filter_congr
  intro b hb
  have := h b (List.mem_range.mp hb)
  exact decide_eq_decide.mpr this
theorem bo_getD_app (l : List Nat) (b j : Nat) (hj : j < l.length + 1) : (l ++ [b]).getD j 0 = if j < l.length then l.getD j 0 else b := by
  rw [List.getD_eq_getElem?_getD]
  by_cases h : j < l.length
  · rw [if_pos h, List.getElem?_append_left h, List.getD_eq_getElem?_getD]
  · rw [if_neg h, List.getElem?_append_right (by omega), show j - l.length = 0 by omega]
    rfl
theorem re_boat {σ : tl_St} (H : re_R σ) (a : Int32) : ∃ r σ1 σ2, fX3_boat σ a = some (r, σ1) ∧ fX4_boat σ1 a = some (r, σ2) ∧ re_R σ2 := by
  obtain ⟨c, he, fl, N, h, u, t, C, H⟩ := H
  obtain ⟨⟨hC, hH, hu, hcu, hX, hXf, hM, hMf⟩, Hl, Hb, Hs⟩ := id H
  have HR : re_R σ := ⟨c, he, fl, N, h, u, t, C, H⟩
  have hN := hC.2.2.2.1
  have key : a = 0 ∨ a = 1 → ∃ r σ1 σ2, fX3_boat σ a = some (r, σ1) ∧ fX4_boat σ1 a = some (r, σ2) ∧ re_R σ2 := by
    intro ha
    obtain ⟨w, hw, rfl⟩ := bo_ways ha
    obtain ⟨b1, b2, b3, b4, b5⟩ := id Hb
    obtain ⟨q1, q2, q3⟩ := b5 w hw
    have hin : tl_in (nI w) 2 := sp_in (by omega) (by decide)
    have hcl : (nI w).toNatClampNeg = w := sp_cl (by omega)
    by_cases h16 : (re_q σ w C).length = 16
    · refine ⟨-4, σ, σ, ?_, ?_, HR⟩
      · unfold fX3_boat
        simp only [tl_be, (bo_w1 σ hw).1, if_neg re_10, if_pos hin, hcl, q1, h16]
        rfl
      · unfold fX4_boat
        simp only [tl_be, (bo_w1 σ hw).2, if_neg re_10, bo_many b2 b3, tl_oe, h16]
        by_cases h100 : σ 34 14 = 100
        · rw [if_pos h100]
        · rw [if_neg h100]; rfl
    · have hlt : ¬ 16 ≤ nI (re_q σ w C).length := sp_nge (m := 16) (k := 16) rfl (by omega) (by decide)
      have hne : ¬ nI (re_q σ w C).length = 16 := fun e => h16 ((nI_eq (b := 16) (by omega) (by omega)).mp e)
      by_cases h100 : C = 100
      · subst h100
        refine ⟨-4, σ, σ, ?_, ?_, HR⟩
        · unfold fX3_boat
          simp only [tl_be, (bo_w1 σ hw).1, if_neg re_10, if_pos hin, hcl, q1, if_neg hlt, b1]
          rfl
        · unfold fX4_boat
          simp only [tl_be, (bo_w1 σ hw).2, if_neg re_10]
          rw [if_pos (by rw [b2]; rfl)]
      · have hC1 : nI C < 100 := (sp_lt (b := 100) (by omega) (by omega)).mpr (by omega)
        have hC2 : ¬ nI C = 100 := fun e => h100 ((nI_eq (b := 100) (by omega) (by omega)).mp e)
        have hinC : tl_in (nI C) 100 := sp_in (by omega) (by decide)
        have hclC : (nI C).toNatClampNeg = C := sp_cl (by omega)
        have hinL : tl_in (nI (re_q σ w C).length) 16 := sp_in (by omega) (by decide)
        have hclL : (nI (re_q σ w C).length).toNatClampNeg = (re_q σ w C).length := sp_cl (by omega)
        obtain ⟨L, eL⟩ : ∃ L, L = (re_q σ w C).length := ⟨_, rfl⟩
        rw [← eL] at hlt hne hinL hclL q1 q2 h16
        obtain ⟨σ1, e1⟩ : ∃ z, z = tl_set (tl_set (tl_set σ (20 + 2 * w + 1) L (nI C)) (20 + 2 * w) 1 (nI (L + 1))) 0 10 (nI (C + 1)) := ⟨_, rfl⟩
        obtain ⟨σ2, e2⟩ : ∃ z, z = tl_set (tl_set (tl_set σ1 44 C (nI w)) 45 C 1) 34 14 (nI (C + 1)) := ⟨_, rfl⟩
        have g1 : ∀ d, d ≠ 0 → d ≠ 20 + 2 * w → d ≠ 20 + 2 * w + 1 → σ1 d = σ d := fun d p1 p2 p3 => by rw [e1, sp_n p1, sp_n p2, sp_n p3]
        have g2 : ∀ d, d ≠ 34 → d ≠ 44 → d ≠ 45 → σ2 d = σ1 d := fun d p1 p2 p3 => by rw [e2, sp_n p1, sp_n p3, sp_n p2]
        have n44 : ∀ b, b ≠ C → σ2 44 b = σ 44 b := fun b hb => by rw [e2, sp_n (by decide), sp_n (by decide), sp_sn hb, g1 44 (by omega) (by omega) (by omega)]
        have n45 : ∀ b, b ≠ C → σ2 45 b = σ 45 b := fun b hb => by rw [e2, sp_n (by decide), sp_sn hb, sp_n (by decide), g1 45 (by omega) (by omega) (by omega)]
        have c44 : σ2 44 C = nI w := by rw [e2, sp_n (by decide), sp_n (by decide), sp_ss]
        have c45 : σ2 45 C = 1 := by rw [e2, sp_n (by decide), sp_ss]
        have hq : ∀ v, v < 2 → re_q σ2 v (C + 1) = if v = w then re_q σ v C ++ [C] else re_q σ v C := by
          intro v hv2
          rw [bo_s, bo_q_cg (σ := σ) (fun b hb => by unfold re_wt; rw [n44 b (by omega), n45 b (by omega)])]
          by_cases hv : v = w
          · subst hv
            rw [if_pos (show re_wt σ2 v C from ⟨by rw [c45]; exact re_10, c44⟩), if_pos rfl]
          · have hwt : ¬ re_wt σ2 v C := fun hwt => hv ((nI_eq (by omega) (by omega)).mp (c44.symm.trans hwt.2)).symm
            rw [if_neg hwt, if_neg hv]
        refine ⟨nI C, σ1, σ2, ?_, ?_, c, he, fl, N, h, u, t, C + 1, H.1.cg ?_ ?_ ?_ ?_ ?_, Hl.cg ?_ ?_ ?_ ?_, ⟨?_, ?_, by omega, fun b hb => ?_, fun v hv => ?_⟩, Hs.cg ?_ ?_⟩
        · have hap : fX0_append σ (20 + 2 * w) (nI C) = some (tl_set (tl_set σ (20 + 2 * w + 1) L (nI C)) (20 + 2 * w) 1 (nI (L + 1))) := by
            unfold fX0_append
            simp only [tl_be, q1, if_neg hlt, if_pos hinL, hclL]
            rw [sp_n (by omega), q1, nI_1]
          unfold fX3_boat
          simp only [tl_be, (bo_w1 σ hw).1, if_neg re_10, if_pos hin, hcl, q1, if_neg hlt, b1, if_pos hC1, hap, tl_oe]
          rw [sp_n (d := 0) (by omega), sp_n (d := 0) (by omega), b1, nI_1, e1]
        · have hm : fX4_manyWait σ1 (nI w) = some (nI L) := by
            rw [bo_many (σ := σ1) (C := C) (by rw [g1 34 (by omega) (by omega) (by omega)]; exact b2) b3]
            have : re_q σ1 w C = re_q σ w C := re_q.cg (g1 44 (by omega) (by omega) (by omega)) (g1 45 (by omega) (by omega) (by omega))
            rw [this, eL]
          have k1 : tl_set σ1 44 C (nI w) 34 14 = nI C := by rw [sp_n (by decide), g1 34 (by omega) (by omega) (by omega)]; exact b2
          have k2 : tl_set (tl_set σ1 44 C (nI w)) 45 C 1 34 14 = nI C := by rw [sp_n (by decide)]; exact k1
          have k0 : σ1 34 14 = nI C := by rw [g1 34 (by omega) (by omega) (by omega)]; exact b2
          unfold fX4_boat
          simp only [tl_be, (bo_w1 σ1 hw).2, if_neg re_10, k0, if_neg hC2, hm, tl_oe, if_neg hne, if_pos hinC, hclC, k1, k2, nI_1, sp_ss, nI_pred]
          rw [e2]
        · intro k _; rw [g2 1 (by omega) (by omega) (by omega), g1 1 (by omega) (by omega) (by omega)]
        · intro d _ _; rw [g2 d (by omega) (by omega) (by omega), g1 d (by omega) (by omega) (by omega)]
        · intro k hk; rw [e2, sp_sn (by omega), sp_n (by decide), sp_n (by decide), g1 34 (by omega) (by omega) (by omega)]
        · intro d _ _; rw [g2 d (by omega) (by omega) (by omega), g1 d (by omega) (by omega) (by omega)]
        · intro i _; rw [g2 43 (by omega) (by omega) (by omega), g1 43 (by omega) (by omega) (by omega)]
        · intro k hk; rw [g2 0 (by omega) (by omega) (by omega), e1, sp_sn hk, sp_n (by omega), sp_n (by omega)]
        · rw [g2 33 (by omega) (by omega) (by omega), g1 33 (by omega) (by omega) (by omega)]
        · intro k hk; rw [e2, sp_sn (by omega), sp_n (by decide), sp_n (by decide), g1 34 (by omega) (by omega) (by omega)]
        · rw [g2 49 (by omega) (by omega) (by omega), g1 49 (by omega) (by omega) (by omega)]
        · rw [g2 0 (by omega) (by omega) (by omega), e1, sp_ss]
        · rw [e2, sp_ss]
        · by_cases hbC : b = C
          · subst hbC; rw [c44]
            rcases (show w = 0 ∨ w = 1 by omega) with rfl | rfl
            · exact Or.inl rfl
            · exact Or.inr rfl
          · rw [n44 b hbC]; exact b4 b (by omega)
        · rw [hq v hv, g2 _ (by omega) (by omega) (by omega), g2 _ (by omega) (by omega) (by omega)]
          by_cases hvw : v = w
          · subst hvw
            rw [if_pos rfl, List.length_append, List.length_singleton, ← eL]
            refine ⟨?_, by omega, fun j hj => ?_⟩
            · rw [e1, sp_n (by omega), sp_ss]
            · rw [bo_getD_app _ _ _ (by omega), ← eL, e1, sp_n (by omega), sp_n (by omega)]
              by_cases hjL : j = L
              · subst hjL
                rw [sp_ss, if_neg (by omega)]
              · rw [sp_sn hjL, if_pos (by omega)]
                exact q3 j (by omega)
          · rw [if_neg hvw, g1 _ (by omega) (by omega) (by omega), g1 _ (by omega) (by omega) (by omega)]
            exact b5 v hv
        · intro d _ _; rw [g2 d (by omega) (by omega) (by omega), g1 d (by omega) (by omega) (by omega)]
        · intro d _ _; rw [g2 d (by omega) (by omega) (by omega), g1 d (by omega) (by omega) (by omega)]
  by_cases e0 : a = 0
  · exact key (Or.inl e0)
  · by_cases e1 : a = 1
    · exact key (Or.inr e1)
    · refine ⟨-2, σ, σ, ?_, ?_, HR⟩
      · unfold fX3_boat; simp only [tl_be, bo_way, if_neg e0, if_neg e1, if_true]
      · unfold fX4_boat; simp only [tl_be, re_two, if_neg e0, if_neg e1, if_true]

