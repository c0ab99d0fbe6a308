def sp_f (fl : Bool) : Int32 := if fl then 1 else 0
def sp_st (c : tl_St) (fl : Bool) (N : Nat) (he : Nat → Int32) (k : Nat) : Int32 := sp_b c (sp_S c fl N he k).1 fl N k
theorem sp_b_cases (c : tl_St) (he : Nat → Int32) (fl : Bool) (N k : Nat) : sp_b c he fl N k = -1 ∨ ∃ j, j < N ∧ sp_b c he fl N k = nI j ∧ (if fl then he j < c 2 j else 0 < he j) := by
  unfold sp_b
  cases fl with
  | true =>
    rcases sp_T_cases c he (c 0 0 - 1 - nI k) N with ⟨h, -⟩ | ⟨j, h1, h2, h3⟩
    · exact Or.inl h
    · exact Or.inr ⟨j, h1, by rw [if_pos rfl, h3], by simpa using h2.2.1⟩
  | false =>
    rcases sp_G_cases c he (nI k + 1) N with ⟨h, -⟩ | ⟨j, h1, h2, h3⟩
    · exact Or.inl h
    · exact Or.inr ⟨j, h1, by rw [if_neg (by decide), h3], by simpa using h2.2.1⟩
theorem sp_S_H {c : tl_St} {N : Nat} {fl : Bool} {he : Nat → Int32} (hN : N ≤ 4) (hH : sp_H c N he) : ∀ k : Nat, sp_H c N (sp_S c fl N he k).1
  | 0 => hH
  | k + 1 => by
    have ih := sp_S_H (fl := fl) hN hH k
    intro i hi
    obtain ⟨r, q, hr, er, eq, hqr⟩ := ih i hi
    show ∃ r q, r ≤ 60 ∧ c 2 i = nI r ∧ (sp_S1 fl (sp_S c fl N he k) (sp_b c (sp_S c fl N he k).1 fl N k)).1 i = nI q ∧ q ≤ r
    unfold sp_S1
    rcases sp_b_cases c (sp_S c fl N he k).1 fl N k with hb | ⟨j, hj, hb, hm⟩
    · rw [if_pos hb]
      exact ⟨r, q, hr, er, eq, hqr⟩
    · rw [hb, if_neg (sp_ne1 (by omega)), sp_cl (by omega)]
      by_cases hij : i = j
      · subst hij
        show ∃ r q, r ≤ 60 ∧ c 2 i = nI r ∧ upd _ i _ i = nI q ∧ q ≤ r
        rw [pk_us, eq]
        rw [eq, er] at hm
        cases fl with
        | true =>
          have h1 : q < r := (sp_lt (a := q) (b := r) (by omega) (by omega)).mp (by simpa using hm)
          exact ⟨r, q + 1, hr, er, by rw [if_pos rfl, nI_1], by omega⟩
        | false =>
          have h1 : 0 < q := (sp_lt (a := 0) (by omega) (by omega)).mp (by simpa [nI_0] using hm)
          obtain ⟨q', rfl⟩ : ∃ q', q = q' + 1 := ⟨q - 1, by omega⟩
          exact ⟨r, q', hr, er, by rw [if_neg (by decide), pk_m1], by omega⟩
      · show ∃ r q, r ≤ 60 ∧ c 2 i = nI r ∧ upd _ j _ i = nI q ∧ q ≤ r
        rw [pk_un hij]
        exact ⟨r, q, hr, er, eq, hqr⟩
def sp_PM (σ0 c : tl_St) (he : Nat → Int32) (fl : Bool) (N k : Nat) (σ : tl_St) : Prop :=
  sp_RM σ c (sp_S c fl N he k).1 N ∧ σ 34 6 = sp_f fl ∧ σ 34 20 = (sp_S c fl N he k).2.1 ∧ (∀ i, i < 4 → σ 47 i = (sp_S c fl N he k).2.2 i) ∧ (∀ j, j < k → σ 46 j = sp_st c fl N he j) ∧ (∀ d, d ≠ 34 → d ≠ 43 → d ≠ 46 → d ≠ 47 → σ d = σ0 d) ∧ (∀ f, f ≠ 20 → σ 34 f = σ0 34 f)
theorem sp_moves_L {σ0 c : tl_St} {he : Nat → Int32} {fl : Bool} {N h : Nat} (hC : sp_C c N h) (hH : sp_H c N he) (k6 : tl_St → Option tl_St) : ∀ (n k : Nat) (σ : tl_St), k ≤ h → h - k < n → sp_PM σ0 c he fl N k σ → ∃ σ', fX4_moves_L32 k6 n σ (nI k) = k6 σ' ∧ sp_PM σ0 c he fl N h σ' := by
  obtain ⟨hc0, hh1, hh6, hN, hcs⟩ := id hC
  intro n
  induction n with
  | zero => intro k σ h1 h2; omega
  | succ n ih =>
    intro k σ h1 h2 hP
    obtain ⟨hR, hf, ho, hg, hs, hfr, hf2⟩ := id hP
    rw [fX4_moves_L32, hR.1, hc0]
    by_cases hk : k = h
    · subst hk
      rw [if_pos ((sp_le (by omega) (by omega)).mpr (Nat.le_refl _))]
      exact ⟨σ, rfl, hP⟩
    · have hk : k < h := by omega
      have hin : tl_in (nI k) 60 := sp_in (by omega) (by decide)
      have hcl : (nI k).toNatClampNeg = k := sp_cl (by omega)
      rw [if_neg (fun q => absurd ((sp_le (by omega) (by omega)).mp q) (by omega))]
      have hG := sp_comesFrom (ch := nI k + 1) hC hR
      have hT := sp_goesTo (ch := nI h - 1 - nI k) hC hR
      have hb : ∀ K : Int32 → Option tl_St, (if σ 34 6 = 0 then tl_o1 (fX4_comesFrom σ (nI k + 1)) fun r49 => K r49 else tl_o1 (fX4_goesTo σ (nI h - 1 - nI k)) fun r50 => K r50) = K (sp_st c fl N he k) := by
        intro K
        rw [hf, hG, hT]
        unfold sp_st sp_b
        rw [hc0]
        cases fl <;> simp [sp_f, tl_o1]
      simp only [tl_bnd]
      rw [hb]
      simp only [if_pos hin, hcl]
      have hS : sp_S c fl N he (k + 1) = sp_S1 fl (sp_S c fl N he k) (sp_st c fl N he k) := rfl
      rcases sp_b_cases c (sp_S c fl N he k).1 fl N k with hb | ⟨j, hj, hb, -⟩
      · have hb : sp_st c fl N he k = -1 := hb
        simp only [hb, if_true, if_pos]
        rw [← nI_succ]
        refine ih (k + 1) _ (by omega) (by omega) ?_
        rw [hb] at hS
        unfold sp_PM
        rw [hS]
        simp only [sp_S1, if_true]
        refine ⟨⟨?_, ?_, ?_, fun i hi => ?_⟩, ?_, ?_, fun i hi => ?_, fun i hi => ?_, fun d h1 h2 h3 h4 => ?_, fun f h1 => ?_⟩
        · simp [tl_set, tl_setC, upd, hR.1]
        · simp [tl_set, tl_setC, upd, hR.2.1]
        · simp [tl_set, tl_setC, upd, hR.2.2.1]
        · simpa [tl_set, tl_setC, upd] using hR.2.2.2 i hi
        · simp [tl_set, tl_setC, upd, hf]
        · simp [tl_set, tl_setC, upd, ho]
        · simp [tl_set, tl_setC, upd, hg i hi]
        · by_cases hik : i = k
          · subst hik; simp [tl_set, tl_setC, upd, hb]
          · simp [tl_set, tl_setC, upd, hik, hs i (by omega)]
        · simp [tl_set, tl_setC, h1, h3, hfr d h1 h2 h3 h4]
        · simp [tl_set, tl_setC, upd, h1, hf2 f h1]
      · have hb : sp_st c fl N he k = nI j := hb
        have hj1 : ¬ nI j = -1 := sp_ne1 (by omega)
        have hin2 : tl_in (nI j) 4 := sp_in (by omega) (by decide)
        have hcl2 : (nI j).toNatClampNeg = j := sp_cl (by omega)
        simp only [hb, if_neg hj1, if_pos hin2, hcl2]
        have hσ : tl_set (tl_set σ 46 k (nI j)) 34 20 (tl_set σ 46 k (nI j) 34 20 + 0) 34 6 = sp_f fl := by simp [tl_set, tl_setC, upd, hf]
        rw [hσ]
        rw [hb] at hS
        cases fl
        · rw [if_pos (show sp_f false = 0 from rfl)]
          rw [← nI_succ]
          refine ih (k + 1) _ (by omega) (by omega) ?_
          unfold sp_PM
          rw [hS]
          simp only [sp_S1, if_neg hj1, hcl2]
          refine ⟨⟨?_, ?_, ?_, fun i hi => ?_⟩, ?_, ?_, fun i hi => ?_, fun i hi => ?_, fun d h1 h2 h3 h4 => ?_, fun f h1 => ?_⟩
          · simp [tl_set, tl_setC, upd, hR.1]
          · simp [tl_set, tl_setC, upd, hR.2.1]
          · simp [tl_set, tl_setC, upd, hR.2.2.1]
          · obtain ⟨e1, e2, e3, e4, e5⟩ := hR.2.2.2 i hi
            obtain ⟨-, -, -, -, e6⟩ := hR.2.2.2 j hj
            simp [tl_set, tl_setC, upd, e1, e2, e3, e4, e5, e6]
          · simp [tl_set, tl_setC, upd, hf]
          · simp [tl_set, tl_setC, upd, ho]
          · simp [tl_set, tl_setC, upd, hg i hi, hg j (by omega)]
          · by_cases hik : i = k
            · subst hik; simp [tl_set, tl_setC, upd, hb]
            · simp [tl_set, tl_setC, upd, hik, hs i (by omega)]
          · simp [tl_set, tl_setC, h1, h2, h3, h4, hfr d h1 h2 h3 h4]
          · simp [tl_set, tl_setC, upd, h1, hf2 f h1]
        · rw [if_neg (show ¬ sp_f true = 0 from by decide)]
          rw [← nI_succ]
          refine ih (k + 1) _ (by omega) (by omega) ?_
          unfold sp_PM
          rw [hS]
          simp only [sp_S1, if_neg hj1, hcl2]
          refine ⟨⟨?_, ?_, ?_, fun i hi => ?_⟩, ?_, ?_, fun i hi => ?_, fun i hi => ?_, fun d h1 h2 h3 h4 => ?_, fun f h1 => ?_⟩
          · simp [tl_set, tl_setC, upd, hR.1]
          · simp [tl_set, tl_setC, upd, hR.2.1]
          · simp [tl_set, tl_setC, upd, hR.2.2.1]
          · obtain ⟨e1, e2, e3, e4, e5⟩ := hR.2.2.2 i hi
            obtain ⟨-, -, -, -, e6⟩ := hR.2.2.2 j hj
            simp [tl_set, tl_setC, upd, e1, e2, e3, e4, e5, e6]
          · simp [tl_set, tl_setC, upd, hf]
          · simp [tl_set, tl_setC, upd, ho]
          · simp [tl_set, tl_setC, upd, hg i hi, hg j (by omega)]
          · by_cases hik : i = k
            · subst hik; simp [tl_set, tl_setC, upd, hb]
            · simp [tl_set, tl_setC, upd, hik, hs i (by omega)]
          · simp [tl_set, tl_setC, h1, h2, h3, h4, hfr d h1 h2 h3 h4]
          · simp [tl_set, tl_setC, upd, h1, hf2 f h1]
