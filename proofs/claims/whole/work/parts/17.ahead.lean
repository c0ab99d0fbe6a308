theorem sp_S_O (c : tl_St) (fl : Bool) (N : Nat) (he : Nat → Int32) : ∀ k : Nat, ∃ o, o ≤ k ∧ (sp_S c fl N he k).2.1 = nI o
  | 0 => ⟨0, by omega, rfl⟩
  | k + 1 => by
    obtain ⟨o, h1, h2⟩ := sp_S_O c fl N he k
    show ∃ o, o ≤ k + 1 ∧ (sp_S1 fl (sp_S c fl N he k) (sp_b c (sp_S c fl N he k).1 fl N k)).2.1 = nI o
    unfold sp_S1
    by_cases hb : sp_b c (sp_S c fl N he k).1 fl N k = -1
    · rw [if_pos hb]
      exact ⟨o + 1, by omega, by show (sp_S c fl N he k).2.1 + 1 = _; rw [h2, nI_1]⟩
    · rw [if_neg hb]
      exact ⟨o, by omega, h2⟩
theorem sp_A_s (c : tl_St) (N h : Nat) (fl : Bool) (he : Nat → Int32) (k : Nat) (hh : h ≤ 60) : ∃ o, o ≤ 60 ∧ (sp_A c N h fl he (k + 1)).2.2 = (sp_A c N h fl he k).2.2 + nI o := by
  show ∃ o, o ≤ 60 ∧ (sp_A c N h fl he k).2.2 + (if (sp_A c N h fl he k).1 then 0 else sp_tO c N h (sp_A c N h fl he k).1 (sp_A c N h fl he k).2.1) = _
  cases (sp_A c N h fl he k).1 with
  | true => exact ⟨0, by omega, rfl⟩
  | false =>
    obtain ⟨o, h1, h2⟩ := sp_S_O c false N (sp_A c N h fl he k).2.1 h
    exact ⟨o, by omega, by rw [if_neg (by decide)]; unfold sp_tO; rw [h2]⟩
theorem sp_A_D {c : tl_St} {N h : Nat} {fl : Bool} {he : Nat → Int32} (hh : h ≤ 60) : ∀ k : Nat, ∃ d, d ≤ 60 * k ∧ (sp_A c N h fl he k).2.2 = nI d
  | 0 => ⟨0, by omega, rfl⟩
  | k + 1 => by
    obtain ⟨d, h1, h2⟩ := sp_A_D (c := c) (N := N) (fl := fl) (he := he) hh k
    obtain ⟨o, h3, h4⟩ := sp_A_s c N h fl he k hh
    exact ⟨d + o, by omega, by rw [h4, h2, nI_add]⟩
theorem sp_A_mono {c : tl_St} {N h : Nat} {fl : Bool} {he : Nat → Int32} (hh : h ≤ 60) {i : Nat} : ∀ j : Nat, i + j ≤ 1000 → (sp_A c N h fl he i).2.2 ≤ (sp_A c N h fl he (i + j)).2.2
  | 0, _ => Int32.le_refl _
  | j + 1, hj => by
    refine Int32.le_trans (sp_A_mono hh j (by omega)) ?_
    obtain ⟨d, h1, h2⟩ := sp_A_D (c := c) (N := N) (fl := fl) (he := he) hh (i + j)
    obtain ⟨o, h3, h4⟩ := sp_A_s c N h fl he (i + j) hh
    rw [show i + (j + 1) = i + j + 1 from rfl, h4, h2, nI_add]
    exact (sp_le (by omega) (by omega)).mpr (by omega)
theorem sp_A_H {c : tl_St} {N h : Nat} {fl : Bool} {he : Nat → Int32} (hC : sp_C c N h) (hH : sp_H c N he) : ∀ k : Nat, sp_H c N (sp_A c N h fl he k).2.1
  | 0 => hH
  | k + 1 => sp_tH_H hC (sp_A_H hC hH k)
/-! the reference: what would be, taken back -/
def sp_KM (σ σ' : tl_St) : Prop := (∀ d, d ≠ 34 → d ≠ 43 → d ≠ 46 → d ≠ 47 → d ≠ 48 → σ' d = σ d) ∧ (∀ i, i < 4 → σ' 43 i = σ 43 i) ∧ (∀ f, f ≠ 20 → f ≠ 21 → f ≠ 23 → σ' 34 f = σ 34 f)
theorem sp_KM.rf (σ : tl_St) : sp_KM σ σ := ⟨fun _ _ _ _ _ _ => rfl, fun _ _ => rfl, fun _ _ _ _ => rfl⟩
theorem sp_KM.tr {σ σ1 σ2 : tl_St} (h1 : sp_KM σ σ1) (h2 : sp_KM σ1 σ2) : sp_KM σ σ2 :=
  ⟨fun d a b c e f => (h2.1 d a b c e f).trans (h1.1 d a b c e f), fun i hi => (h2.2.1 i hi).trans (h1.2.1 i hi), fun f a b c => (h2.2.2 f a b c).trans (h1.2.2 f a b c)⟩
theorem sp_KM.RM {σ σ' c : tl_St} {he : Nat → Int32} {N : Nat} (hN : N ≤ 4) (h : sp_KM σ σ') (hR : sp_RM σ c he N) : sp_RM σ' c he N := by
  refine ⟨?_, ?_, ?_, fun i hi => ?_⟩
  · rw [h.2.2 5 (by decide) (by decide) (by decide)]; exact hR.1
  · rw [h.2.2 7 (by decide) (by decide) (by decide)]; exact hR.2.1
  · rw [h.2.2 13 (by decide) (by decide) (by decide)]; exact hR.2.2.1
  · rw [h.1 39 (by decide) (by decide) (by decide) (by decide) (by decide), h.1 40 (by decide) (by decide) (by decide) (by decide) (by decide), h.1 41 (by decide) (by decide) (by decide) (by decide) (by decide), h.1 42 (by decide) (by decide) (by decide) (by decide) (by decide), h.2.1 i (by omega)]
    exact hR.2.2.2 i hi
theorem sp_keeps_L (k4 : tl_St → Option tl_St) (σ0 : tl_St) : ∀ (n i : Nat) (σ : tl_St), i ≤ 4 → 4 - i < n → (∀ j, j < i → σ 48 j = σ0 43 j) → (∀ d, d ≠ 48 → σ d = σ0 d) → ∃ σ', fX4_keeps_L10 k4 n σ (nI i) = k4 σ' ∧ (∀ j, j < 4 → σ' 48 j = σ0 43 j) ∧ (∀ d, d ≠ 48 → σ' d = σ0 d) := by
  intro n
  induction n with
  | zero => intro i σ h1 h2; omega
  | succ n ih =>
    intro i σ h1 h2 h3 h4
    rw [fX4_keeps_L10]
    by_cases hi : i = 4
    · subst hi
      rw [if_pos (by decide)]
      exact ⟨σ, rfl, h3, h4⟩
    · have hin : tl_in (nI i) 4 := sp_in (by omega) (by decide)
      have hcl : (nI i).toNatClampNeg = i := sp_cl (by omega)
      rw [if_neg (sp_nge (m := 4) (k := 4) rfl (by omega) (by decide))]
      simp only [tl_bnd, if_pos hin, hcl]
      rw [← nI_succ]
      refine ih (i + 1) _ (by omega) (by omega) (fun j hj => ?_) (fun d hd => ?_)
      · by_cases hji : j = i
        · subst hji; rw [sp_ss, h4 43 (by decide)]
        · rw [sp_sn hji]; exact h3 j (by omega)
      · rw [sp_n hd]; exact h4 d hd
theorem sp_back_L (k4 : tl_St → Option tl_St) (σ0 : tl_St) : ∀ (n i : Nat) (σ : tl_St), i ≤ 4 → 4 - i < n → (∀ j, j < i → σ 43 j = σ0 48 j) → (∀ d, d ≠ 43 → σ d = σ0 d) → ∃ σ', fX4_takesBack_L10 k4 n σ (nI i) = k4 σ' ∧ (∀ j, j < 4 → σ' 43 j = σ0 48 j) ∧ (∀ d, d ≠ 43 → σ' d = σ0 d) := by
  intro n
  induction n with
  | zero => intro i σ h1 h2; omega
  | succ n ih =>
    intro i σ h1 h2 h3 h4
    rw [fX4_takesBack_L10]
    by_cases hi : i = 4
    · subst hi
      rw [if_pos (by decide)]
      exact ⟨σ, rfl, h3, h4⟩
    · have hin : tl_in (nI i) 4 := sp_in (by omega) (by decide)
      have hcl : (nI i).toNatClampNeg = i := sp_cl (by omega)
      rw [if_neg (sp_nge (m := 4) (k := 4) rfl (by omega) (by decide))]
      simp only [tl_bnd, if_pos hin, hcl]
      rw [← nI_succ]
      refine ih (i + 1) _ (by omega) (by omega) (fun j hj => ?_) (fun d hd => ?_)
      · by_cases hji : j = i
        · subst hji; rw [sp_ss, h4 48 (by decide)]
        · rw [sp_sn hji]; exact h3 j (by omega)
      · rw [sp_n hd]; exact h4 d hd
theorem sp_isb_f (fl : Bool) : tl_isb (sp_f fl) := by cases fl; exact Or.inl rfl; exact Or.inr rfl
theorem sp_keeps {σ : tl_St} {fl : Bool} (hf : σ 34 6 = sp_f fl) : ∃ σ', fX4_keeps σ = some σ' ∧ (∀ j, j < 4 → σ' 48 j = σ 43 j) ∧ σ' 34 23 = sp_f fl ∧ (∀ d, d ≠ 48 → d ≠ 34 → σ' d = σ d) ∧ (∀ f, f ≠ 23 → σ' 34 f = σ 34 f) := by
  obtain ⟨σ', z, h1, h2⟩ := sp_keeps_L (fun σ3 => some σ3) (tl_set σ 34 23 (σ 34 6)) 1000 0 (tl_set σ 34 23 (σ 34 6)) (by omega) (by omega) (fun j hj => absurd hj (by omega)) (fun _ _ => rfl)
  rw [nI_0] at z
  refine ⟨σ', ?_, fun j hj => ?_, ?_, fun d a b => ?_, fun f a => ?_⟩
  · unfold fX4_keeps
    rw [if_pos (show tl_isb (σ 34 6) by rw [hf]; exact sp_isb_f fl)]
    simp only [tl_be]
    exact z
  · rw [h1 j hj, sp_n (by decide)]
  · rw [h2 34 (by decide), sp_ss, hf]
  · rw [h2 d a, sp_n b]
  · rw [h2 34 (by decide), sp_sn a]
theorem sp_takes {σ : tl_St} {fl : Bool} (hf : σ 34 23 = sp_f fl) : ∃ σ', fX4_takesBack σ = some σ' ∧ (∀ j, j < 4 → σ' 43 j = σ 48 j) ∧ σ' 34 6 = sp_f fl ∧ (∀ d, d ≠ 43 → d ≠ 34 → σ' d = σ d) ∧ (∀ f, f ≠ 6 → σ' 34 f = σ 34 f) := by
  obtain ⟨σ', z, h1, h2⟩ := sp_back_L (fun σ3 => some σ3) (tl_set σ 34 6 (σ 34 23)) 1000 0 (tl_set σ 34 6 (σ 34 23)) (by omega) (by omega) (fun j hj => absurd hj (by omega)) (fun _ _ => rfl)
  rw [nI_0] at z
  refine ⟨σ', ?_, fun j hj => ?_, ?_, fun d a b => ?_, fun f a => ?_⟩
  · unfold fX4_takesBack
    rw [if_pos (show tl_isb (σ 34 23) by rw [hf]; exact sp_isb_f fl)]
    simp only [tl_be]
    exact z
  · rw [h1 j hj, sp_n (by decide)]
  · rw [h2 34 (by decide), sp_ss, hf]
  · rw [h2 d a, sp_n b]
  · rw [h2 34 (by decide), sp_sn a]
theorem sp_keeps_RM {σ σ' c : tl_St} {he : Nat → Int32} {N : Nat} (hR : sp_RM σ c he N) (a : ∀ d, d ≠ 48 → d ≠ 34 → σ' d = σ d) (b : ∀ f, f ≠ 23 → σ' 34 f = σ 34 f) : sp_RM σ' c he N := by
  refine ⟨?_, ?_, ?_, fun i hi => ?_⟩
  · rw [b 5 (by decide)]; exact hR.1
  · rw [b 7 (by decide)]; exact hR.2.1
  · rw [b 13 (by decide)]; exact hR.2.2.1
  · rw [a 39 (by decide) (by decide), a 40 (by decide) (by decide), a 41 (by decide) (by decide), a 42 (by decide) (by decide), a 43 (by decide) (by decide)]; exact hR.2.2.2 i hi
/-- the steps, as they would be now -/
theorem sp_looks {σ c : tl_St} {he : Nat → Int32} {fl : Bool} {N h : Nat} (hC : sp_C c N h) (hH : sp_H c N he) (hR : sp_RM σ c he N) (hf : σ 34 6 = sp_f fl) : ∃ σ', fX4_looks σ = some σ' ∧ sp_KM σ σ' ∧ (∀ j, j < h → σ' 46 j = sp_st c fl N he j) := by
  obtain ⟨σ1, z1, a1, a2, a3, a4⟩ := sp_keeps hf
  obtain ⟨σ2, z2, b1, b2, b3, b4, b5, b6, b7, b8⟩ := sp_moves hC hH (sp_keeps_RM hR a3 a4) (by rw [a4 6 (by decide)]; exact hf)
  obtain ⟨σ3, z3, c1, c2, c3, c4⟩ := sp_takes (σ := σ2) (fl := fl) (by rw [b8 23 (by decide) (by decide) (by decide)]; exact a2)
  refine ⟨σ3, ?_, ⟨fun d h1 h2 h3 h4 h5 => ?_, fun i hi => ?_, fun f h1 h2 h3 => ?_⟩, fun j hj => ?_⟩
  · unfold fX4_looks
    simp only [z1, z2, z3, tl_oe]
  · rw [c3 d h2 h1, b7 d h1 h2 h3 h4, a3 d h5 h1]
  · rw [c1 i hi, b7 48 (by decide) (by decide) (by decide) (by decide), a1 i hi]
  · by_cases h6 : f = 6
    · subst h6; rw [c2, hf]
    · rw [c4 f h6, b8 f h6 h1 h2, a4 f h3]
  · rw [c3 46 (by decide) (by decide)]; exact b6 j hj
theorem sp_ahead_L {σ0 c : tl_St} {he : Nat → Int32} {fl : Bool} {N h T : Nat} (hC : sp_C c N h) (hH : sp_H c N he) (hT : T < 1000) (k4 : tl_St → Int32 → Option (Int32 × tl_St)) : ∀ (n j : Nat) (σ : tl_St), j ≤ T → T - j < n → sp_RM σ c (sp_A c N h fl he j).2.1 N → σ 34 6 = sp_f (sp_A c N h fl he j).1 → (∀ d, d ≠ 34 → d ≠ 43 → d ≠ 46 → d ≠ 47 → σ d = σ0 d) → (∀ f, f ≠ 6 → f ≠ 20 → f ≠ 21 → σ 34 f = σ0 34 f) → ∃ σ', fX4_aheadOf_L8 (nI T) k4 n σ (sp_A c N h fl he j).2.2 (nI j) = k4 σ' (sp_A c N h fl he T).2.2 ∧ (∀ d, d ≠ 34 → d ≠ 43 → d ≠ 46 → d ≠ 47 → σ' d = σ0 d) ∧ (∀ f, f ≠ 6 → f ≠ 20 → f ≠ 21 → σ' 34 f = σ0 34 f) := by
  intro n
  induction n with
  | zero => intro j σ h1 h2; omega
  | succ n ih =>
    intro j σ h1 h2 hR hf h3 h4
    rw [fX4_aheadOf_L8]
    by_cases hj : j = T
    · subst hj
      rw [if_pos ((sp_le (by omega) (by omega)).mpr (Nat.le_refl _))]
      exact ⟨σ, rfl, h3, h4⟩
    · rw [if_neg (fun q => absurd ((sp_le (by omega) (by omega)).mp q) (by omega))]
      obtain ⟨σ2, z2, b1, b2, b3, b4, b5, b6, b7, b8⟩ := sp_moves hC (sp_A_H hC hH j) hR hf
      simp only [tl_be, z2, tl_oe]
      have ih' := ih (j + 1) σ2 (by omega) (by omega) b1 b2 (fun d a b c e => (b7 d a b c e).trans (h3 d a b c e)) (fun f a b c => (b8 f a b c).trans (h4 f a b c))
      have hA : (sp_A c N h fl he (j + 1)).2.2 = (sp_A c N h fl he j).2.2 + (if (sp_A c N h fl he j).1 then 0 else sp_tO c N h (sp_A c N h fl he j).1 (sp_A c N h fl he j).2.1) := rfl
      rw [hA, nI_succ] at ih'
      rw [hf, b3]
      cases hq : (sp_A c N h fl he j).1 with
      | true => rw [hq] at ih'; simpa [sp_f] using ih'
      | false => rw [hq] at ih'; simpa [sp_f] using ih'
theorem sp_aheadOf {σ c : tl_St} {he : Nat → Int32} {fl : Bool} {N h T : Nat} (hC : sp_C c N h) (hH : sp_H c N he) (hR : sp_RM σ c he N) (hf : σ 34 6 = sp_f fl) (hT : T < 1000) : ∃ σ', fX4_aheadOf σ (nI T) = some ((sp_A c N h fl he T).2.2, σ') ∧ sp_KM σ σ' := by
  obtain ⟨σ1, z1, a1, a2, a3, a4⟩ := sp_keeps hf
  obtain ⟨σ2, z2, b1, b2⟩ := sp_ahead_L (σ0 := σ1) (fl := fl) hC hH hT (fun σ2 x3 => tl_o1 (fX4_takesBack σ2) fun σ5 => some (x3, σ5)) 1000 0 σ1 (by omega) (by omega) (sp_keeps_RM hR a3 a4) (by rw [a4 6 (by decide)]; exact hf) (fun _ _ _ _ _ => rfl) (fun _ _ _ _ => rfl)
  obtain ⟨σ3, z3, c1, c2, c3, c4⟩ := sp_takes (σ := σ2) (fl := fl) (by rw [b2 23 (by decide) (by decide) (by decide)]; exact a2)
  refine ⟨σ3, ?_, fun d h1 h2 h3 h4 h5 => ?_, fun i hi => ?_, fun f h1 h2 h3 => ?_⟩
  · unfold fX4_aheadOf
    rw [nI_0] at z2
    simp only [z1, tl_oe, tl_be]
    have : (sp_A c N h fl he 0).2.2 = 0 := rfl
    rw [this] at z2
    rw [z2, z3, tl_oe]
  · rw [c3 d h2 h1, b1 d h1 h2 h3 h4, a3 d h5 h1]
  · rw [c1 i hi, b1 48 (by decide) (by decide) (by decide) (by decide), a1 i hi]
  · by_cases h6 : f = 6
    · subst h6; rw [c2, hf]
    · rw [c4 f h6, b2 f h6 h1 h2, a4 f h3]
