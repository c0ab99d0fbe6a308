theorem sp_fill_L {a n1 : Nat} {v : Int32} (hn : n1 < 2 ^ 31) (σ0 : tl_St) (k3 : tl_St → Option tl_St) : ∀ (n i : Nat) (σ : tl_St), i ≤ n1 → n1 - i < n → (∀ j, j < i → σ a j = v) → (∀ d, d ≠ a → σ d = σ0 d) → ∃ σ', fJ7_fill_53178_L5 a n1 v (nI n1) k3 n σ (nI i) = k3 σ' ∧ (∀ j, j < n1 → σ' a j = v) ∧ (∀ d, d ≠ a → σ' d = σ0 d) := by
  intro n
  induction n with
  | zero => intro i σ h1 h2; omega
  | succ n ih =>
    intro i σ h1 h2 h3 h4
    rw [fJ7_fill_53178_L5]
    by_cases hi : i = n1
    · subst hi
      rw [if_pos ((sp_le (by omega) (by omega)).mpr (Nat.le_refl _))]
      exact ⟨σ, rfl, h3, h4⟩
    · have hin : tl_in (nI i) n1 := sp_in (by omega) hn
      have hcl : (nI i).toNatClampNeg = i := sp_cl (by omega)
      rw [if_neg (sp_nge rfl (by omega) (by omega))]
      simp only [tl_bnd, if_pos hin, hcl]
      rw [← nI_succ]
      refine ih (i + 1) _ (by omega) (by omega) (fun j hj => ?_) (fun d hd => ?_)
      · by_cases hji : j = i
        · subst hji; exact sp_ss
        · rw [sp_sn hji]; exact h3 j (by omega)
      · rw [sp_n hd]; exact h4 d hd
theorem sp_fill {a n1 : Nat} {v : Int32} (hn : n1 < 1000) (σ : tl_St) : ∃ σ', fJ7_fill_53178 σ a n1 v = some σ' ∧ (∀ j, j < n1 → σ' a j = v) ∧ (∀ d, d ≠ a → σ' d = σ d) := by
  obtain ⟨σ', z, h1, h2⟩ := sp_fill_L (a := a) (n1 := n1) (v := v) (by omega) σ (fun σ2 => some σ2) 1000 0 σ (by omega) (by omega) (fun j hj => absurd hj (by omega)) (fun _ _ => rfl)
  rw [nI_0] at z
  refine ⟨σ', ?_, h1, h2⟩
  unfold fJ7_fill_53178
  simp only [tl_be]
  exact z
theorem sp_min' (x y : Int32) : (if y < x then y else x) = sp_min x y := by
  unfold sp_min
  by_cases h : y < x
  · rw [if_pos h, if_pos (Int32.le_of_lt h)]
  · rw [if_neg h]
    by_cases h2 : y ≤ x
    · rw [if_pos h2]; exact Int32.le_antisymm (Int32.not_lt.mp h) h2
    · rw [if_neg h2]
theorem sp_leak_X {σ0 c : tl_St} {he : Nat → Int32} {w N h : Nat} (hC : sp_C c N h) (k12 : tl_St → Option tl_St) : ∀ (n i : Nat) (σ : tl_St), i ≤ N → N - i < n → sp_RX w σ c (sp_L c he i).1 N → σ w 13 = (sp_L c he i).2 → (∀ d, d ≠ w → d ≠ w + 6 → σ d = σ0 d) → (∀ f, f ≠ 13 → σ w f = σ0 w f) → ∃ σ', fX2_loseByLeaks_L7 w k12 n σ (nI i) = k12 σ' ∧ sp_RX w σ' c (sp_L c he N).1 N ∧ σ' w 13 = (sp_L c he N).2 ∧ (∀ d, d ≠ w → d ≠ w + 6 → σ' d = σ0 d) ∧ (∀ f, f ≠ 13 → σ' w f = σ0 w f) := by
  have hN := hC.2.2.2.1
  intro n
  induction n with
  | zero => intro i σ h1 h2; omega
  | succ n ih =>
    intro i σ h1 h2 hR h3 h4 h5
    rw [fX2_loseByLeaks_L7, hR.2.1]
    by_cases hi : i = N
    · subst hi
      rw [if_pos ((sp_le (by omega) (by omega)).mpr (Nat.le_refl _))]
      exact ⟨σ, rfl, hR, h3, h4, h5⟩
    · have hi : i < N := by omega
      have hin : tl_in (nI i) 4 := sp_in (by omega) (by decide)
      have hcl : (nI i).toNatClampNeg = i := sp_cl (by omega)
      obtain ⟨e1, e2, e3, e4, e5, e6⟩ := hR.2.2.2 i hi
      rw [if_neg (fun q => absurd ((sp_le (by omega) (by omega)).mp q) (by omega))]
      simp only [tl_bnd, if_pos hin, hcl, e5, e6]
      rw [← nI_succ, sp_min']
      refine ih (i + 1) _ (by omega) (by omega) ⟨?_, ?_, ?_, fun j hj => ?_⟩ ?_ (fun d h6 h7 => ?_) (fun f h6 => ?_)
      · simp [tl_set, tl_setC, upd, hR.1]
      · simp [tl_set, tl_setC, upd, hR.2.1]
      · simp [tl_set, tl_setC, upd, hR.2.2.1]
      · obtain ⟨e1, e2, e3, e4, e5, e6⟩ := hR.2.2.2 j hj
        simp [tl_set, tl_setC, upd, e1, e2, e3, e4, e5, e6, sp_L]
      · simp [tl_set, tl_setC, upd, h3, sp_L]
      · simp [tl_set, tl_setC, h6, h7, h4 d h6 h7]
      · simp [tl_set, tl_setC, upd, h6, h5 f h6]
def sp_PX (w : Nat) (σ0 c : tl_St) (he : Nat → Int32) (fl : Bool) (N h k : Nat) (σ : tl_St) : Prop :=
  sp_RX w σ c (sp_S c fl N he k).1 N ∧ σ w 1 = (if fl then nI (h - k) else nI k) ∧ σ w 12 = (sp_S c fl N he k).2.1 ∧ (∀ i, i < 4 → σ (w + 8) i = (sp_S c fl N he k).2.2 i) ∧ (∀ j, j < k → σ (w + 7) j = sp_st c fl N he j) ∧ (∀ d, d ≠ w → d ≠ w + 6 → d ≠ w + 7 → d ≠ w + 8 → σ d = σ0 d) ∧ (∀ f, f ≠ 1 → f ≠ 12 → σ w f = σ0 w f)
theorem sp_turn_L {w : Nat} {σ0 c : tl_St} {he : Nat → Int32} {fl : Bool} {N h : Nat} (hC : sp_C c N h) (hH : sp_H c N he) (k6 : tl_St → Option tl_St) : ∀ (n k : Nat) (σ : tl_St), k ≤ h → h - k < n → sp_PX w σ0 c he fl N h k σ → ∃ σ', fX2_makeTurn_L38 w (if fl then 0 else 1) (if fl then -1 else 1) k6 n σ (nI k) = k6 σ' ∧ sp_PX w σ0 c he fl N h h σ' := by
  obtain ⟨hc0, hh1, hh6, hN, hcs⟩ := id hC
  intro n
  induction n with
  | zero => intro k σ h1 h2; omega
  | succ n ih =>
    intro k σ h1 h2 hP
    obtain ⟨hR, hf, ho, hg, hs, hfr, hf2⟩ := id hP
    rw [fX2_makeTurn_L38, hR.1, hc0]
    by_cases hk : k = h
    · subst hk
      rw [if_pos ((sp_le (by omega) (by omega)).mpr (Nat.le_refl _))]
      exact ⟨σ, rfl, hP⟩
    · have hk : k < h := by omega
      have hin : tl_in (nI k) 60 := sp_in (by omega) (by decide)
      have hcl : (nI k).toNatClampNeg = k := sp_cl (by omega)
      rw [if_neg (fun q => absurd ((sp_le (by omega) (by omega)).mp q) (by omega))]
      simp only [tl_be]
      obtain ⟨σ1, eσ1⟩ : ∃ z, z = tl_set σ w 1 (σ w 1 + if fl then -1 else 1) := ⟨_, rfl⟩
      rw [← eσ1]
      have a1 : ∀ d, d ≠ w → σ1 d = σ d := fun d hd => by rw [eσ1]; exact sp_n hd
      have a2 : ∀ f, f ≠ 1 → σ1 w f = σ w f := fun f hd => by rw [eσ1]; exact sp_sn hd
      have a3 : σ1 w 1 = if fl then nI h - 1 - nI k else nI k + 1 := by
        rw [eσ1, sp_ss, hf]
        cases fl
        · rfl
        · show nI (h - k) + -1 = nI h - 1 - nI k
          rw [show (1 : Int32) = nI 1 from rfl, pk_sub (by omega), pk_sub (by omega)]
          obtain ⟨z, hz⟩ : ∃ z, h - k = z + 1 := ⟨h - k - 1, by omega⟩
          rw [hz, show (-nI 1 : Int32) = -1 from rfl, pk_m1]
          congr 1; omega
      have a4 : σ1 w 1 = if fl then nI (h - (k + 1)) else nI (k + 1) := by
        rw [a3]
        cases fl
        · show nI k + 1 = nI (k + 1); rw [nI_1]
        · show nI h - 1 - nI k = nI (h - (k + 1))
          rw [show (1 : Int32) = nI 1 from rfl, pk_sub (by omega), pk_sub (by omega)]
          congr 1; omega
      have hR1 : sp_RX w σ1 c (sp_S c fl N he k).1 N := by
        refine ⟨?_, ?_, ?_, fun i hi => ?_⟩
        · rw [a2 0 (by decide)]; exact hR.1
        · rw [a2 2 (by decide)]; exact hR.2.1
        · rw [a2 3 (by decide)]; exact hR.2.2.1
        · rw [a1 (w + 1) (by omega), a1 (w + 2) (by omega), a1 (w + 3) (by omega), a1 (w + 4) (by omega), a1 (w + 5) (by omega), a1 (w + 6) (by omega)]; exact hR.2.2.2 i hi
      have hHk := sp_S_H (fl := fl) hN hH k
      have hb : ∀ K : Int32 → Option tl_St, (if (if fl then (0 : Int32) else 1) = 0 then tl_o1 (fX2_basinToTake σ1 w (6 * σ1 w 1)) fun r29 => K r29 else tl_o1 (fX2_basinToGive σ1 w (6 * σ1 w 1)) fun r30 => K r30) = K (sp_st c fl N he k) := by
        intro K
        unfold sp_st sp_b
        rw [a3, hc0]
        cases fl
        · simp only [Bool.false_eq_true, if_false]
          rw [if_neg (by decide), sp_give hC hHk hR1]
          rfl
        · simp only [if_true]
          rw [sp_take hC hHk hR1]
          rfl
      rw [hb]
      simp only [if_pos hin, hcl]
      have hS : sp_S c fl N he (k + 1) = sp_S1 fl (sp_S c fl N he k) (sp_st c fl N he k) := rfl
      rcases sp_b_cases c (sp_S c fl N he k).1 fl N k with hb | ⟨j, hj, hb, -⟩
      · have hb : sp_st c fl N he k = -1 := hb
        simp only [hb, if_true, if_pos]
        rw [← nI_succ]
        refine ih (k + 1) _ (by omega) (by omega) ?_
        rw [hb] at hS
        unfold sp_PX
        rw [hS]
        simp only [sp_S1, if_true]
        refine ⟨⟨?_, ?_, ?_, fun i hi => ?_⟩, ?_, ?_, fun i hi => ?_, fun i hi => ?_, fun d h1 h2 h3 h4 => ?_, fun f h1 h2 => ?_⟩
        · simp [tl_set, tl_setC, upd, hR1.1]
        · simp [tl_set, tl_setC, upd, hR1.2.1]
        · simp [tl_set, tl_setC, upd, hR1.2.2.1]
        · simpa [tl_set, tl_setC, upd] using hR1.2.2.2 i hi
        · simp [tl_set, tl_setC, upd, a4]
        · simp [tl_set, tl_setC, upd, a2, ho]
        · simp [tl_set, tl_setC, upd, a1, hg i hi]
        · by_cases hik : i = k
          · subst hik; simp [tl_set, tl_setC, upd, hb]
          · simp [tl_set, tl_setC, upd, hik, a1, hs i (by omega)]
        · simp [tl_set, tl_setC, h1, h3, a1 d h1, hfr d h1 h2 h3 h4]
        · simp [tl_set, tl_setC, upd, h2, a2 f h1, hf2 f h1 h2]
      · have hb : sp_st c fl N he k = nI j := hb
        have hj1 : ¬ nI j = -1 := sp_ne1 (by omega)
        have hin2 : tl_in (nI j) 4 := sp_in (by omega) (by decide)
        have hcl2 : (nI j).toNatClampNeg = j := sp_cl (by omega)
        have hsub : ∀ x : Int32, x - (if fl then -1 else 1) = x + if fl then 1 else -1 := by
          intro x
          cases fl
          · show x - 1 = x + -1; rw [Int32.sub_eq_add_neg]
          · show x - -1 = x + 1; rw [Int32.sub_eq_add_neg, Int32.neg_neg]
        simp only [hb, if_neg hj1, if_pos hin2, hcl2]
        rw [← nI_succ]
        refine ih (k + 1) _ (by omega) (by omega) ?_
        rw [hb] at hS
        unfold sp_PX
        rw [hS]
        simp only [sp_S1, if_neg hj1, hcl2, hsub]
        refine ⟨⟨?_, ?_, ?_, fun i hi => ?_⟩, ?_, ?_, fun i hi => ?_, fun i hi => ?_, fun d h1 h2 h3 h4 => ?_, fun f h1 h2 => ?_⟩
        · simp [tl_set, tl_setC, upd, hR1.1]
        · simp [tl_set, tl_setC, upd, hR1.2.1]
        · simp [tl_set, tl_setC, upd, hR1.2.2.1]
        · obtain ⟨e1, e2, e3, e4, e5, e6⟩ := hR1.2.2.2 i hi
          obtain ⟨-, -, -, -, -, e7⟩ := hR1.2.2.2 j hj
          simp [tl_set, tl_setC, upd, e1, e2, e3, e4, e5, e6, e7]
        · simp [tl_set, tl_setC, upd, a4]
        · simp [tl_set, tl_setC, upd, a2, ho]
        · simp [tl_set, tl_setC, upd, a1, hg i hi, hg j (by omega)]
        · by_cases hik : i = k
          · subst hik; simp [tl_set, tl_setC, upd, hb]
          · simp [tl_set, tl_setC, upd, hik, a1, hs i (by omega)]
        · simp [tl_set, tl_setC, h1, h2, h3, h4, a1 d h1, hfr d h1 h2 h3 h4]
        · simp [tl_set, tl_setC, upd, a2 f h1, hf2 f h1 h2]
