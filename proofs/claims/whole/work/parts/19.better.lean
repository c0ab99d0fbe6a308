/-! BETTER: another bottom -/
def sp_fB (c : tl_St) (N h : Nat) (fl : Bool) (he : Nat → Int32) (i b : Nat) : Int32 := (sp_A (tl_set c 1 i (nI b)) N h fl he 10).2.2
theorem sp_C_B {c : tl_St} {N h i b : Nat} (hC : sp_C c N h) (hb : b < 60) : sp_C (tl_set c 1 i (nI b)) N h := by
  refine ⟨?_, hC.2.1, hC.2.2.1, hC.2.2.2.1, fun j hj => ?_⟩
  · rw [sp_n (by decide)]; exact hC.1
  · obtain ⟨h1, h2, h3, h4⟩ := hC.2.2.2.2 j hj
    rw [sp_n (d := 2) (by decide), sp_n (d := 3) (by decide), sp_n (d := 4) (by decide)]
    refine ⟨?_, h2, h3, h4⟩
    by_cases hij : j = i
    · subst hij; exact ⟨b, hb, sp_ss⟩
    · rw [sp_sn hij]; exact h1
theorem sp_H_B {c : tl_St} {N i : Nat} {v : Int32} {he : Nat → Int32} (hH : sp_H c N he) : sp_H (tl_set c 1 i v) N he := by
  intro j hj
  rw [sp_n (by decide)]
  exact hH j hj
theorem sp_fB_D {c : tl_St} {N h i b : Nat} {fl : Bool} {he : Nat → Int32} (hh : h ≤ 60) : ∃ d, d ≤ 10000 ∧ sp_fB c N h fl he i b = nI d := by
  obtain ⟨d, h1, h2⟩ := sp_A_D (c := tl_set c 1 i (nI b)) (N := N) (fl := fl) (he := he) hh 10
  exact ⟨d, by omega, h2⟩
abbrev sp_any (_ : Nat) : Prop := True
def sp_bB (c : tl_St) (N h : Nat) (fl : Bool) (he : Nat → Int32) (i : Nat) : Int32 × Int32 := sp_B sp_any (sp_fB c N h fl he i) 60
theorem sp_bB_j {c : tl_St} {N h i : Nat} {fl : Bool} {he : Nat → Int32} (hh : h ≤ 60) : ∃ j, j < 60 ∧ sp_bB c N h fl he i = (nI j, sp_fB c N h fl he i j) := by
  have key : ∀ b : Nat, ∃ j, j < b + 1 ∧ sp_B sp_any (sp_fB c N h fl he i) (b + 1) = (nI j, sp_fB c N h fl he i j) := by
    intro b
    induction b with
    | zero =>
      obtain ⟨d, hd, e⟩ := sp_fB_D (c := c) (N := N) (i := i) (b := 0) (fl := fl) (he := he) hh
      refine ⟨0, by omega, ?_⟩
      have hlt : sp_fB c N h fl he i 0 < 999999 := by
        rw [e]
        exact (sp_lt (b := 999999) (by omega) (by omega)).mpr (by omega)
      rw [sp_B, sp_B, if_pos ⟨trivial, hlt⟩]
    | succ b ih =>
      obtain ⟨j, hj, e⟩ := ih
      rw [sp_B]
      by_cases h : sp_any (b + 1) ∧ sp_fB c N h fl he i (b + 1) < (sp_B sp_any (sp_fB c N h fl he i) (b + 1)).2
      · rw [if_pos h]; exact ⟨b + 1, by omega, rfl⟩
      · rw [if_neg h]; exact ⟨j, by omega, e⟩
  exact key 59
theorem sp_better_ML {σ0 c : tl_St} {he : Nat → Int32} {fl : Bool} {N h i : Nat} (hC : sp_C c N h) (hH : sp_H c N he) (hi : i < N) (hR : sp_RM σ0 c he N) (hf : σ0 34 6 = sp_f fl) (k6 : tl_St → Int32 → Int32 → Option (Int32 × tl_St)) : ∀ (n b : Nat) (σ : tl_St), b ≤ 60 → 60 - b < n → (∃ v, sp_KM (tl_set σ0 39 i v) σ) → ∃ σ', fX4_betterBy_L17 (nI i) k6 n σ (sp_B sp_any (sp_fB c N h fl he i) b).1 (sp_B sp_any (sp_fB c N h fl he i) b).2 (nI b) = k6 σ' (sp_bB c N h fl he i).1 (sp_bB c N h fl he i).2 ∧ ∃ v, sp_KM (tl_set σ0 39 i v) σ' := by
  have hN := hC.2.2.2.1
  intro n
  induction n with
  | zero => intro b σ h1 h2; omega
  | succ n ih =>
    intro b σ h1 h2 hK
    rw [fX4_betterBy_L17]
    by_cases hb : b = 60
    · subst hb
      rw [if_pos (by decide)]
      exact ⟨σ, rfl, hK⟩
    · have hin : tl_in (nI i) 4 := sp_in (by omega) (by decide)
      have hcl : (nI i).toNatClampNeg = i := sp_cl (by omega)
      rw [if_neg (sp_nge (m := 60) (k := 60) rfl (by omega) (by decide)), if_pos hin]
      simp only [hcl, tl_be]
      obtain ⟨v, hK⟩ := hK
      have hK2 : sp_KM (tl_set σ0 39 i (nI b)) (tl_set σ 39 i (nI b)) := by
        refine ⟨fun d a1 a2 a3 a4 a5 => ?_, fun j hj => ?_, fun f a1 a2 a3 => ?_⟩
        · have q := hK.1 d a1 a2 a3 a4 a5
          by_cases hd : d = 39
          · subst hd
            rw [sp_s, sp_s, q, sp_s]
            funext j
            by_cases hji : j = i
            · subst hji; rw [pk_us, pk_us]
            · rw [pk_un hji, pk_un hji, pk_un hji]
          · rw [sp_n hd, q, sp_n hd, sp_n hd]
        · rw [sp_n (by decide), hK.2.1 j hj, sp_n (by decide), sp_n (by decide)]
        · rw [sp_n (by decide), hK.2.2 f a1 a2 a3, sp_n (by decide), sp_n (by decide)]
      have hR0 : sp_RM (tl_set σ0 39 i (nI b)) (tl_set c 1 i (nI b)) he N := by
        refine ⟨?_, ?_, ?_, fun j hj => ?_⟩
        · rw [sp_n (by decide), sp_n (by decide)]; exact hR.1
        · rw [sp_n (by decide)]; exact hR.2.1
        · rw [sp_n (by decide), sp_n (by decide)]; exact hR.2.2.1
        · obtain ⟨e1, e2, e3, e4, e5⟩ := hR.2.2.2 j hj
          rw [sp_n (d := 40) (by decide), sp_n (d := 41) (by decide), sp_n (d := 42) (by decide), sp_n (d := 43) (by decide), sp_n (d := 2) (by decide), sp_n (d := 3) (by decide), sp_n (d := 4) (by decide)]
          refine ⟨?_, e2, e3, e4, e5⟩
          by_cases hji : j = i
          · subst hji; rw [sp_ss, sp_ss]
          · rw [sp_sn hji, sp_sn hji]; exact e1
      have hf2 : (tl_set σ 39 i (nI b)) 34 6 = sp_f fl := by
        rw [hK2.2.2 6 (by decide) (by decide) (by decide), sp_n (by decide)]; exact hf
      obtain ⟨σ2, z2, hK3⟩ := sp_aheadOf (T := 10) (sp_C_B hC (by omega)) (sp_H_B hH) (hK2.RM hN hR0) hf2 (by omega)
      rw [show (10 : Int32) = nI 10 from rfl, z2]
      simp only [tl_oe2, fX4_lesser]
      have ih' := ih (b + 1) σ2 (by omega) (by omega) ⟨_, hK2.tr hK3⟩
      rw [nI_succ] at ih'
      have hD : (sp_A (tl_set c 1 i (nI b)) N h fl he 10).2.2 = sp_fB c N h fl he i b := rfl
      rw [hD]
      by_cases hlt : sp_fB c N h fl he i b < (sp_B sp_any (sp_fB c N h fl he i) b).2
      · have e : sp_B sp_any (sp_fB c N h fl he i) (b + 1) = (nI b, sp_fB c N h fl he i b) := by rw [sp_B, if_pos ⟨trivial, hlt⟩]
        rw [e] at ih'
        rw [if_neg (Int32.not_le.mpr hlt), if_neg (Int32.not_le.mpr hlt)]
        exact ih'
      · have e : sp_B sp_any (sp_fB c N h fl he i) (b + 1) = sp_B sp_any (sp_fB c N h fl he i) b := by rw [sp_B, if_neg (fun z => hlt z.2)]
        rw [e] at ih'
        rw [if_pos (Int32.not_lt.mp hlt), if_pos (Int32.not_lt.mp hlt)]
        exact ih'
theorem sp_betterBy {σ c : tl_St} {he : Nat → Int32} {fl : Bool} {N h i : Nat} {a : Int32} (hC : sp_C c N h) (hH : sp_H c N he) (hi : i < N) (hR : sp_RM σ c he N) (hf : σ 34 6 = sp_f fl) : ∃ σ', fX4_betterBy σ (nI i) a = some ((if a = 0 then (sp_bB c N h fl he i).1 else (sp_bB c N h fl he i).2), σ') ∧ sp_KM σ σ' := by
  have hN := hC.2.2.2.1
  have hin : tl_in (nI i) 4 := sp_in (by omega) (by decide)
  have hcl : (nI i).toNatClampNeg = i := sp_cl (by omega)
  have hself : tl_set σ 39 i (σ 39 i) = σ := by
    funext d
    by_cases hd : d = 39
    · subst hd
      rw [sp_s]
      funext j
      by_cases hji : j = i
      · subst hji; rw [pk_us]
      · rw [pk_un hji]
    · rw [sp_n hd]
  obtain ⟨σ', z, v, hK⟩ := sp_better_ML (σ0 := σ) (fl := fl) hC hH hi hR hf (fun σ3 x4 x5 => if tl_in (nI i) 4 then if a = 0 then some (x4, tl_set σ3 39 i (σ 39 i)) else some (x5, tl_set σ3 39 i (σ 39 i)) else none) 1000 0 σ (by omega) (by omega) ⟨σ 39 i, by rw [hself]; exact sp_KM.rf σ⟩
  rw [sp_B, nI_0] at z
  refine ⟨tl_set σ' 39 i (σ 39 i), ?_, ?_⟩
  · unfold fX4_betterBy
    simp only [hcl, tl_be]
    rw [if_pos hin, z, if_pos hin]
    by_cases ha : a = 0
    · rw [if_pos ha, if_pos ha]
    · rw [if_neg ha, if_neg ha]
  · refine ⟨fun d a1 a2 a3 a4 a5 => ?_, fun j hj => ?_, fun f a1 a2 a3 => ?_⟩
    · have q := hK.1 d a1 a2 a3 a4 a5
      by_cases hd : d = 39
      · subst hd
        rw [sp_s, q, sp_s]
        funext j
        by_cases hji : j = i
        · subst hji; rw [pk_us]
        · rw [pk_un hji, pk_un hji]
      · rw [sp_n hd, q, sp_n hd]
    · rw [sp_n (by decide), hK.2.1 j hj, sp_n (by decide)]
    · rw [sp_n (by decide), hK.2.2 f a1 a2 a3, sp_n (by decide)]
/-! the class: the trial -/
theorem sp_better_XL {σ0 c : tl_St} {he : Nat → Int32} {fl : Bool} {N h i : Nat} (hC : sp_C c N h) (hH : sp_H c N he) (hi : i < N) (hR : sp_RX 1 σ0 c he N) (hf : σ0 1 1 = if fl then c 0 0 else 0) (k3 : tl_St → Int32 → Option (Int32 × tl_St)) : ∀ (n b : Nat) (σ : tl_St) (x5 x6 : Int32), b ≤ 60 → 60 - b < n → (∀ d, d < 10 ∨ 18 < d → σ d = σ0 d) → sp_ch (sp_B sp_any (sp_fB c N h fl he i) b) x5 x6 → ∃ σ' x5' x6', fX3_bestBottom_L8 (nI i) k3 n σ x5 x6 (nI b) = k3 σ' x5' ∧ (∀ d, d < 10 ∨ 18 < d → σ' d = σ0 d) ∧ sp_ch (sp_bB c N h fl he i) x5' x6' := by
  have hN := hC.2.2.2.1
  intro n
  induction n with
  | zero => intro b σ x5 x6 h1 h2; omega
  | succ n ih =>
    intro b σ x5 x6 h1 h2 hfr hch
    rw [fX3_bestBottom_L8]
    by_cases hb : b = 60
    · subst hb
      rw [if_pos (by decide)]
      exact ⟨σ, x5, x6, rfl, hfr, hch⟩
    · have hin : tl_in (nI i) 4 := sp_in (by omega) (by decide)
      have hcl : (nI i).toNatClampNeg = i := sp_cl (by omega)
      have hRσ : sp_RX 1 σ c he N := by
        refine ⟨?_, ?_, ?_, fun j hj => ?_⟩
        · rw [hfr 1 (by omega)]; exact hR.1
        · rw [hfr 1 (by omega)]; exact hR.2.1
        · rw [hfr 1 (by omega)]; exact hR.2.2.1
        · rw [hfr (1 + 1) (by omega), hfr (1 + 2) (by omega), hfr (1 + 3) (by omega), hfr (1 + 4) (by omega), hfr (1 + 5) (by omega), hfr (1 + 6) (by omega)]; exact hR.2.2.2 j hj
      obtain ⟨σ9, z9, hR9, hi9, hf9⟩ := sp_like hC hRσ
      rw [if_neg (sp_nge (m := 60) (k := 60) rfl (by omega) (by decide)), z9]
      simp only [tl_oe, hcl, tl_be]
      rw [if_pos hin]
      have hR11 : sp_RX 10 (tl_set σ9 (10 + 1) i (nI b)) (tl_set c 1 i (nI b)) he N := by
        refine ⟨?_, ?_, ?_, fun j hj => ?_⟩
        · rw [sp_n (by decide), sp_n (by decide)]; exact hR9.1
        · rw [sp_n (by decide)]; exact hR9.2.1
        · rw [sp_n (by decide), sp_n (by decide)]; exact hR9.2.2.1
        · obtain ⟨e1, e2, e3, e4, e5, e6⟩ := hR9.2.2.2 j hj
          rw [sp_n (d := 10 + 2) (by decide), sp_n (d := 10 + 3) (by decide), sp_n (d := 10 + 4) (by decide), sp_n (d := 10 + 5) (by decide), sp_n (d := 10 + 6) (by decide), sp_n (d := 2) (by decide), sp_n (d := 3) (by decide), sp_n (d := 4) (by decide)]
          refine ⟨?_, e2, e3, e4, e5, e6⟩
          by_cases hji : j = i
          · subst hji; rw [sp_ss, sp_ss]
          · rw [sp_sn hji, sp_sn hji]; exact e1
      have hf11 : (tl_set σ9 (10 + 1) i (nI b)) 10 1 = if fl then (tl_set c 1 i (nI b)) 0 0 else 0 := by
        rw [sp_n (by decide), sp_n (by decide), hi9, hfr 1 (by omega)]; exact hf
      obtain ⟨r, σ13, z13, hf13, hr1, hr2⟩ := sp_drawn (T := 10) x6 (sp_C_B hC (by omega)) (sp_H_B hH) (by omega) hR11 hf11
      rw [show (10 : Int32) = nI 10 from rfl, z13]
      simp only [tl_oe2]
      have hfr13 : ∀ d, d < 10 ∨ 18 < d → σ13 d = σ0 d := fun d hd => by
        rw [hf13 d (by omega), sp_n (by omega), hf9 d (by omega), hfr d hd]
      obtain ⟨d, hd, ed⟩ := sp_fB_D (c := c) (N := N) (i := i) (b := b) (fl := fl) (he := he) hC.2.2.1
      have hD : (sp_A (tl_set c 1 i (nI b)) N h fl he 10).2.2 = nI d := ed
      rw [hD] at hr1 hr2
      rcases sp_ch_step hch (by omega) hd ed trivial hr1 hr2 with ⟨hle, hc'⟩ | ⟨hle, hc'⟩
      · rw [if_pos hle, ← nI_succ]
        exact ih (b + 1) σ13 x5 x6 (by omega) (by omega) hfr13 hc'
      · rw [if_neg hle, ← nI_succ]
        exact ih (b + 1) σ13 _ r (by omega) (by omega) hfr13 hc'
theorem sp_bestBottom {σ c : tl_St} {he : Nat → Int32} {fl : Bool} {N h i : Nat} (hC : sp_C c N h) (hH : sp_H c N he) (hi : i < N) (hR : sp_RX 1 σ c he N) (hf : σ 1 1 = if fl then c 0 0 else 0) : ∃ σ' x5 x6, fX3_bestBottom σ (nI i) = some (x5, σ') ∧ (∀ d, d < 10 ∨ 18 < d → σ' d = σ d) ∧ sp_ch (sp_bB c N h fl he i) x5 x6 := by
  obtain ⟨σ', x5, x6, z, h1, h2⟩ := sp_better_XL (σ0 := σ) (fl := fl) hC hH hi hR hf (fun σ1 x2 => some (x2, σ1)) 1000 0 σ (-1) 1000000 (by omega) (by omega) (fun _ _ => rfl) (Or.inl ⟨rfl, rfl, rfl⟩)
  rw [nI_0] at z
  refine ⟨σ', x5, x6, ?_, h1, h2⟩
  unfold fX3_bestBottom
  simp only [tl_be]
  exact z
