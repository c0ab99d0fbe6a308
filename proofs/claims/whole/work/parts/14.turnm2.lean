theorem sp_nge {m : Int32} {k i : Nat} (hm : m = nI k) (h : i < k) (hk : k < 2 ^ 31) : ¬ m ≤ nI i := by
  rw [hm]; intro q; exact absurd ((sp_le hk (by omega)).mp q) (by omega)
theorem sp_ge {m : Int32} {k i : Nat} (hm : m = nI k) (h : k ≤ i) (hk : i < 2 ^ 31) : m ≤ nI i := by
  rw [hm]; exact (sp_le (by omega) hk).mpr h
theorem sp_min_nI {a b : Nat} (ha : a < 2 ^ 31) (hb : b < 2 ^ 31) : sp_min (nI a) (nI b) = nI (min a b) := by
  unfold sp_min
  by_cases h : b ≤ a
  · rw [if_pos ((sp_le hb ha).mpr h), Nat.min_eq_right h]
  · rw [if_neg (fun z => h ((sp_le hb ha).mp z)), Nat.min_eq_left (by omega)]
theorem sp_L_H {c : tl_St} {N h : Nat} {he : Nat → Int32} (hC : sp_C c N h) (hH : sp_H c N he) : ∀ i : Nat, i ≤ N → sp_H c N (sp_L c he i).1
  | 0, _ => hH
  | i + 1, hi => by
    have ih := sp_L_H hC hH i (by omega)
    intro j hj
    obtain ⟨r, q, hr, er, eq, hqr⟩ := ih j hj
    show ∃ r q, r ≤ 60 ∧ c 2 j = nI r ∧ upd (sp_L c he i).1 i _ j = nI q ∧ q ≤ r
    by_cases hij : j = i
    · subst hij
      obtain ⟨-, -, -, ⟨l, hl, el⟩⟩ := hC.2.2.2.2 j hj
      rw [pk_us, eq, el, sp_min_nI (by omega) (by omega), pk_sub (Nat.min_le_right _ _)]
      exact ⟨r, _, hr, er, rfl, by omega⟩
    · rw [pk_un hij]
      exact ⟨r, q, hr, er, eq, hqr⟩
theorem sp_tH_H {c : tl_St} {N h : Nat} {fl : Bool} {he : Nat → Int32} (hC : sp_C c N h) (hH : sp_H c N he) : sp_H c N (sp_tH c N h fl he) := sp_L_H hC (sp_S_H hC.2.2.2.1 hH h) N (Nat.le_refl N)
theorem sp_zero_M (k4 : tl_St → Option tl_St) (σ0 : tl_St) : ∀ (n i : Nat) (σ : tl_St), i ≤ 4 → 4 - i < n → (∀ j, j < i → σ 47 j = 0) → (∀ d, d ≠ 47 → σ d = σ0 d) → ∃ σ', fX4_moves_L12 k4 n σ (nI i) = k4 σ' ∧ (∀ j, j < 4 → σ' 47 j = 0) ∧ (∀ d, d ≠ 47 → σ' d = σ0 d) := by
  intro n
  induction n with
  | zero => intro i σ h1 h2; omega
  | succ n ih =>
    intro i σ h1 h2 h3 h4
    rw [fX4_moves_L12]
    by_cases hi : i = 4
    · subst hi
      rw [if_pos (by decide)]
      exact ⟨σ, rfl, h3, h4⟩
    · have hin : tl_in (nI i) 4 := sp_in (by omega) (by decide)
      have hcl : (nI i).toNatClampNeg = i := sp_cl (by omega)
      rw [if_neg (sp_nge (m := 4) (k := 4) rfl (by omega) (by decide))]
      simp only [tl_bnd, if_pos hin, hcl]
      rw [← nI_succ]
      refine ih (i + 1) _ (by omega) (by omega) (fun j hj => ?_) (fun d hd => ?_)
      · by_cases hji : j = i
        · subst hji; exact sp_ss
        · rw [sp_sn hji]; exact h3 j (by omega)
      · rw [sp_n hd]; exact h4 d hd
theorem sp_leak_M {σ0 c : tl_St} {he : Nat → Int32} {N h : Nat} (hC : sp_C c N h) (k12 : tl_St → Option tl_St) : ∀ (n i : Nat) (σ : tl_St), i ≤ N → N - i < n → sp_RM σ c (sp_L c he i).1 N → σ 34 21 = (sp_L c he i).2 → (∀ d, d ≠ 34 → d ≠ 43 → σ d = σ0 d) → (∀ f, f ≠ 21 → σ 34 f = σ0 34 f) → ∃ σ', fX4_moves_L156 k12 n σ (nI i) = k12 σ' ∧ sp_RM σ' c (sp_L c he N).1 N ∧ σ' 34 21 = (sp_L c he N).2 ∧ (∀ d, d ≠ 34 → d ≠ 43 → σ' d = σ0 d) ∧ (∀ f, f ≠ 21 → σ' 34 f = σ0 34 f) := by
  have hN := hC.2.2.2.1
  intro n
  induction n with
  | zero => intro i σ h1 h2; omega
  | succ n ih =>
    intro i σ h1 h2 hR h3 h4 h5
    rw [fX4_moves_L156, hR.2.1]
    by_cases hi : i = N
    · subst hi
      rw [if_pos ((sp_le (by omega) (by omega)).mpr (Nat.le_refl _))]
      exact ⟨σ, rfl, hR, h3, h4, h5⟩
    · have hi : i < N := by omega
      have hin : tl_in (nI i) 4 := sp_in (by omega) (by decide)
      have hcl : (nI i).toNatClampNeg = i := sp_cl (by omega)
      obtain ⟨e1, e2, e3, e4, e5⟩ := hR.2.2.2 i hi
      rw [if_neg (fun q => absurd ((sp_le (by omega) (by omega)).mp q) (by omega))]
      simp only [tl_bnd, if_pos hin, hcl, e4, e5, fX4_lesser]
      rw [← nI_succ]
      have hm : (if (sp_L c he i).1 i ≤ c 4 i then (sp_L c he i).1 i else c 4 i) = sp_min (c 4 i) ((sp_L c he i).1 i) := rfl
      rw [hm]
      refine ih (i + 1) _ (by omega) (by omega) ⟨?_, ?_, ?_, fun j hj => ?_⟩ ?_ (fun d h6 h7 => ?_) (fun f h6 => ?_)
      · simp [tl_set, tl_setC, upd, hR.1]
      · simp [tl_set, tl_setC, upd, hR.2.1]
      · simp [tl_set, tl_setC, upd, hR.2.2.1]
      · obtain ⟨e1, e2, e3, e4, e5⟩ := hR.2.2.2 j hj
        simp [tl_set, tl_setC, upd, e1, e2, e3, e4, e5, sp_L]
      · simp [tl_set, tl_setC, upd, h3, sp_L]
      · simp [tl_set, tl_setC, h6, h7, h4 d h6 h7]
      · simp [tl_set, tl_setC, upd, h6, h5 f h6]
def sp_TM (σ0 c : tl_St) (he : Nat → Int32) (fl : Bool) (N h : Nat) (σ : tl_St) : Prop :=
  sp_RM σ c (sp_tH c N h fl he) N ∧ σ 34 6 = sp_f (!fl) ∧ σ 34 20 = sp_tO c N h fl he ∧ σ 34 21 = sp_tL c N h fl he ∧ (∀ i, i < 4 → σ 47 i = (sp_S c fl N he h).2.2 i) ∧ (∀ j, j < h → σ 46 j = sp_st c fl N he j) ∧ (∀ d, d ≠ 34 → d ≠ 43 → d ≠ 46 → d ≠ 47 → σ d = σ0 d) ∧ (∀ f, f ≠ 6 → f ≠ 20 → f ≠ 21 → σ 34 f = σ0 34 f)
theorem sp_moves {σ c : tl_St} {he : Nat → Int32} {fl : Bool} {N h : Nat} (hC : sp_C c N h) (hH : sp_H c N he) (hR : sp_RM σ c he N) (hf : σ 34 6 = sp_f fl) : ∃ σ', fX4_moves σ = some σ' ∧ sp_TM σ c he fl N h σ' := by
  obtain ⟨hc0, hh1, hh6, hN, hcs⟩ := id hC
  unfold fX4_moves
  simp only [tl_be]
  obtain ⟨σ1, e1⟩ : ∃ z, z = tl_set (tl_set σ 34 20 0) 34 21 0 := ⟨_, rfl⟩
  rw [← e1]
  have a1 : ∀ d, d ≠ 34 → σ1 d = σ d := fun d hd => by rw [e1]; simp [tl_set, tl_setC, hd]
  have a2 : ∀ f, f ≠ 20 → f ≠ 21 → σ1 34 f = σ 34 f := fun f h1 h2 => by rw [e1]; simp [tl_set, tl_setC, upd, h1, h2]
  have a3 : σ1 34 20 = 0 := by rw [e1]; simp [tl_set, tl_setC, upd]
  have a4 : σ1 34 21 = 0 := by rw [e1]; simp [tl_set, tl_setC, upd]
  obtain ⟨σ2, z1, b1, b2⟩ := sp_zero_M (fun σ3 => fX4_moves_L32 (fun σ5 => if σ5 34 6 = 0 then if tl_isb 1 then fX4_moves_L156 (fun σ11 => some σ11) 1000 (tl_set σ5 34 6 1) 0 else none else if tl_isb 0 then fX4_moves_L156 (fun σ11 => some σ11) 1000 (tl_set σ5 34 6 0) 0 else none) 1000 σ3 0) σ1 1000 0 σ1 (by omega) (by omega) (fun j hj => absurd hj (by omega)) (fun _ _ => rfl)
  rw [nI_0] at z1
  rw [z1]
  have hP0 : sp_PM σ2 c he fl N 0 σ2 := by
    refine ⟨⟨?_, ?_, ?_, fun i hi => ?_⟩, ?_, ?_, fun i hi => ?_, fun j hj => absurd hj (by omega), fun _ _ _ _ _ => rfl, fun _ _ => rfl⟩
    · rw [b2 34 (by decide), a2 5 (by decide) (by decide)]; exact hR.1
    · rw [b2 34 (by decide), a2 7 (by decide) (by decide)]; exact hR.2.1
    · rw [b2 34 (by decide), a2 13 (by decide) (by decide)]; exact hR.2.2.1
    · rw [b2 39 (by decide), b2 40 (by decide), b2 41 (by decide), b2 42 (by decide), b2 43 (by decide), a1 39 (by decide), a1 40 (by decide), a1 41 (by decide), a1 42 (by decide), a1 43 (by decide)]
      exact hR.2.2.2 i hi
    · rw [b2 34 (by decide), a2 6 (by decide) (by decide)]; exact hf
    · rw [b2 34 (by decide), a3]; rfl
    · rw [b1 i hi]; rfl
  obtain ⟨σ3, z2, hP⟩ := sp_moves_L hC hH (fun σ5 => if σ5 34 6 = 0 then if tl_isb 1 then fX4_moves_L156 (fun σ11 => some σ11) 1000 (tl_set σ5 34 6 1) 0 else none else if tl_isb 0 then fX4_moves_L156 (fun σ11 => some σ11) 1000 (tl_set σ5 34 6 0) 0 else none) 1000 0 σ2 (by omega) (by omega) hP0
  rw [nI_0] at z2
  rw [z2]
  obtain ⟨p1, p2, p3, p4, p5, p6, p7⟩ := hP
  have hz : (if σ3 34 6 = 0 then if tl_isb 1 then fX4_moves_L156 (fun σ11 => some σ11) 1000 (tl_set σ3 34 6 1) 0 else none else if tl_isb 0 then fX4_moves_L156 (fun σ11 => some σ11) 1000 (tl_set σ3 34 6 0) 0 else none) = fX4_moves_L156 (fun σ11 => some σ11) 1000 (tl_set σ3 34 6 (sp_f (!fl))) 0 := by
    rw [p2]
    cases fl
    · rw [if_pos (show sp_f false = 0 from rfl), if_pos (show tl_isb 1 from Or.inr rfl), show sp_f (!false) = 1 from rfl]
    · rw [if_neg (show ¬ sp_f true = 0 from by decide), if_pos (show tl_isb 0 from Or.inl rfl), show sp_f (!true) = 0 from rfl]
  rw [hz]
  obtain ⟨σ4, e4⟩ : ∃ z, z = tl_set σ3 34 6 (sp_f (!fl)) := ⟨_, rfl⟩
  rw [← e4]
  have d1 : ∀ d, d ≠ 34 → σ4 d = σ3 d := fun d hd => by rw [e4]; exact sp_n hd
  have d2 : ∀ f, f ≠ 6 → σ4 34 f = σ3 34 f := fun f hd => by rw [e4]; exact sp_sn hd
  have d3 : σ4 34 6 = sp_f (!fl) := by rw [e4]; exact sp_ss
  have hR4 : sp_RM σ4 c (sp_S c fl N he h).1 N := by
    refine ⟨?_, ?_, ?_, fun i hi => ?_⟩
    · rw [d2 5 (by decide)]; exact p1.1
    · rw [d2 7 (by decide)]; exact p1.2.1
    · rw [d2 13 (by decide)]; exact p1.2.2.1
    · rw [d1 39 (by decide), d1 40 (by decide), d1 41 (by decide), d1 42 (by decide), d1 43 (by decide)]; exact p1.2.2.2 i hi
  have h21 : σ4 34 21 = 0 := by rw [d2 21 (by decide), p7 21 (by decide), b2 34 (by decide), a4]
  obtain ⟨σ5, z3, q1, q2, q3, q4⟩ := sp_leak_M (σ0 := σ4) (he := (sp_S c fl N he h).1) hC (fun σ11 => some σ11) 1000 0 σ4 (by omega) (by omega) hR4 h21 (fun _ _ _ => rfl) (fun _ _ => rfl)
  rw [nI_0] at z3
  refine ⟨σ5, z3, q1, ?_, ?_, q2, fun i hi => ?_, fun j hj => ?_, fun d h1 h2 h3 h4 => ?_, fun f h1 h2 h3 => ?_⟩
  · rw [q4 6 (by decide)]; exact d3
  · rw [q4 20 (by decide), d2 20 (by decide)]; exact p3
  · rw [q3 47 (by decide) (by decide), d1 47 (by decide)]; exact p4 i hi
  · rw [q3 46 (by decide) (by decide), d1 46 (by decide)]; exact p5 j hj
  · rw [q3 d h1 h2, d1 d h1, p6 d h1 h2 h3 h4, b2 d h4, a1 d h1]
  · rw [q4 f h3, d2 f h1, p7 f h2, b2 34 (by decide), a2 f h2 h3]
