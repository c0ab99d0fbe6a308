/-! NEEDLESS: another one out -/
abbrev sp_bitI (i : Nat) : Int32 := 1 <<< (nI i &&& 31)
def sp_cN (c : tl_St) (i : Nat) : tl_St := tl_set c 0 2 (c 0 2 ||| sp_bitI i)
def sp_fN (c : tl_St) (N h : Nat) (fl : Bool) (he : Nat → Int32) (i : Nat) : Int32 := (sp_A (sp_cN c i) N h fl he 10).2.2
theorem sp_clr : ∀ (u : Fin 16) (i : Fin 4), ((nI u.val >>> (nI i.val &&& 31)) &&& 1) = 0 → ((nI u.val ||| (1 <<< (nI i.val &&& 31))) &&& ((1 <<< (nI i.val &&& 31)) ^^^ (-1))) = nI u.val := by decide
theorem sp_clear {o : Int32} {u i : Nat} (ho : o = nI u) (hu : u < 16) (hi : i < 4) (h : ((o >>> (nI i &&& 31)) &&& 1) = 0) : ((o ||| sp_bitI i) &&& (sp_bitI i ^^^ (-1))) = o := by
  subst ho
  exact sp_clr ⟨u, hu⟩ ⟨i, hi⟩ h
theorem sp_C_N {c : tl_St} {N h i : Nat} (hC : sp_C c N h) : sp_C (sp_cN c i) N h := by
  unfold sp_cN
  refine ⟨?_, hC.2.1, hC.2.2.1, hC.2.2.2.1, fun j hj => ?_⟩
  · rw [sp_sn (by decide)]; exact hC.1
  · rw [sp_n (d := 1) (by decide), sp_n (d := 2) (by decide), sp_n (d := 3) (by decide), sp_n (d := 4) (by decide)]
    exact hC.2.2.2.2 j hj
theorem sp_H_N {c : tl_St} {N i : Nat} {he : Nat → Int32} (hH : sp_H c N he) : sp_H (sp_cN c i) N he := by
  intro j hj
  unfold sp_cN
  rw [sp_n (d := 2) (by decide)]
  exact hH j hj
theorem sp_fN_D {c : tl_St} {N h i : Nat} {fl : Bool} {he : Nat → Int32} (hh : h ≤ 60) : ∃ d, d ≤ 10000 ∧ sp_fN c N h fl he i = nI d := by
  obtain ⟨d, h1, h2⟩ := sp_A_D (c := sp_cN c i) (N := N) (fl := fl) (he := he) hh 10
  exact ⟨d, by omega, h2⟩
def sp_bN (c : tl_St) (N h : Nat) (fl : Bool) (he : Nat → Int32) : Int32 × Int32 := sp_B (sp_use c) (sp_fN c N h fl he) N
theorem sp_need_ML {σ0 c : tl_St} {he : Nat → Int32} {fl : Bool} {N h u : Nat} (hC : sp_C c N h) (hH : sp_H c N he) (hu : u < 16) (hcu : c 0 2 = nI u) (hR : sp_RM σ0 c he N) (hf : σ0 34 6 = sp_f fl) (k4 : tl_St → Int32 → Int32 → Option (Int32 × tl_St)) : ∀ (n i : Nat) (σ : tl_St), i ≤ N → N - i < n → sp_KM σ0 σ → ∃ σ', fX4_needlessBy_L8 k4 n σ (sp_B (sp_use c) (sp_fN c N h fl he) i).1 (sp_B (sp_use c) (sp_fN c N h fl he) i).2 (nI i) = k4 σ' (sp_bN c N h fl he).1 (sp_bN c N h fl he).2 ∧ sp_KM σ0 σ' := by
  have hN := hC.2.2.2.1
  intro n
  induction n with
  | zero => intro i σ h1 h2; omega
  | succ n ih =>
    intro i σ h1 h2 hK
    have hRσ := hK.RM hN hR
    rw [fX4_needlessBy_L8, hRσ.2.1]
    by_cases hi : i = N
    · subst hi
      rw [if_pos ((sp_le (by omega) (by omega)).mpr (Nat.le_refl _))]
      exact ⟨σ, rfl, hK⟩
    · have hi : i < N := by omega
      rw [if_neg (fun q => absurd ((sp_le (by omega) (by omega)).mp q) (by omega))]
      simp only [tl_be, fX4_isIn, hRσ.2.2.1]
      by_cases huse : sp_use c i
      · have h1' : ¬ ((c 0 2 >>> (nI i &&& 31)) &&& 1) = 1 := fun z => absurd (huse.symm.trans z) (by decide)
        rw [if_neg h1', if_pos rfl]
        have hR16 : sp_RM (tl_set σ 34 13 (c 0 2 ||| sp_bitI i)) (sp_cN c i) he N := by
          unfold sp_cN
          refine ⟨?_, ?_, ?_, fun j hj => ?_⟩
          · rw [sp_sn (by decide), sp_sn (by decide)]; exact hRσ.1
          · rw [sp_sn (by decide)]; exact hRσ.2.1
          · rw [sp_ss, sp_ss]
          · rw [sp_n (d := 39) (by decide), sp_n (d := 40) (by decide), sp_n (d := 41) (by decide), sp_n (d := 42) (by decide), sp_n (d := 43) (by decide), sp_n (d := 1) (by decide), sp_n (d := 2) (by decide), sp_n (d := 3) (by decide), sp_n (d := 4) (by decide)]
            exact hRσ.2.2.2 j hj
        have hf16 : (tl_set σ 34 13 (c 0 2 ||| sp_bitI i)) 34 6 = sp_f fl := by
          rw [sp_sn (by decide), hK.2.2 6 (by decide) (by decide) (by decide)]; exact hf
        obtain ⟨σ2, z2, hK2⟩ := sp_aheadOf (T := 10) (sp_C_N (i := i) hC) (sp_H_N hH) hR16 hf16 (by omega)
        rw [show (10 : Int32) = nI 10 from rfl, z2]
        simp only [tl_oe2, fX4_lesser]
        have e13 : σ2 34 13 = c 0 2 ||| sp_bitI i := by rw [hK2.2.2 13 (by decide) (by decide) (by decide), sp_ss]
        rw [e13, sp_clear hcu hu (by omega) huse]
        have hK3 : sp_KM σ0 (tl_set σ2 34 13 (c 0 2)) := by
          refine ⟨fun d a1 a2 a3 a4 a5 => ?_, fun j hj => ?_, fun f a1 a2 a3 => ?_⟩
          · rw [sp_n a1, hK2.1 d a1 a2 a3 a4 a5, sp_n a1]; exact hK.1 d a1 a2 a3 a4 a5
          · rw [sp_n (by decide), hK2.2.1 j hj, sp_n (by decide)]; exact hK.2.1 j hj
          · by_cases h13 : f = 13
            · subst h13; rw [sp_ss]; exact hR.2.2.1.symm
            · rw [sp_sn h13, hK2.2.2 f a1 a2 a3, sp_sn h13]; exact hK.2.2 f a1 a2 a3
        have ih' := ih (i + 1) _ (by omega) (by omega) hK3
        rw [nI_succ] at ih'
        have hD : (sp_A (sp_cN c i) N h fl he 10).2.2 = sp_fN c N h fl he i := rfl
        rw [hD]
        by_cases hlt : sp_fN c N h fl he i < (sp_B (sp_use c) (sp_fN c N h fl he) i).2
        · have e : sp_B (sp_use c) (sp_fN c N h fl he) (i + 1) = (nI i, sp_fN c N h fl he i) := by rw [sp_B, if_pos ⟨huse, hlt⟩]
          rw [e] at ih'
          rw [if_neg (Int32.not_le.mpr hlt), if_neg (Int32.not_le.mpr hlt)]
          exact ih'
        · have e : sp_B (sp_use c) (sp_fN c N h fl he) (i + 1) = sp_B (sp_use c) (sp_fN c N h fl he) i := by rw [sp_B, if_neg (fun z => hlt z.2)]
          rw [e] at ih'
          rw [if_pos (Int32.not_lt.mp hlt), if_pos (Int32.not_lt.mp hlt)]
          exact ih'
      · have h1' : ((c 0 2 >>> (nI i &&& 31)) &&& 1) = 1 := (sp_bit1 _).mpr huse
        rw [if_pos h1', if_neg (by decide)]
        have ih' := ih (i + 1) _ (by omega) (by omega) hK
        rw [nI_succ, sp_B_skip huse] at ih'
        exact ih'
theorem sp_needlessBy {σ c : tl_St} {he : Nat → Int32} {fl : Bool} {N h u : Nat} {a : Int32} (hC : sp_C c N h) (hH : sp_H c N he) (hu : u < 16) (hcu : c 0 2 = nI u) (hR : sp_RM σ c he N) (hf : σ 34 6 = sp_f fl) : ∃ σ', fX4_needlessBy σ a = some ((if (sp_bN c N h fl he).1 = -1 then (sp_bN c N h fl he).1 else if a = 0 then (sp_bN c N h fl he).1 else (sp_bN c N h fl he).2), σ') ∧ sp_KM σ σ' := by
  have hN := hC.2.2.2.1
  obtain ⟨σ', z, hK⟩ := sp_need_ML (σ0 := σ) (fl := fl) hC hH hu hcu hR hf (fun σ1 x2 x3 => if x2 = -1 then some (x2, σ1) else if a = 0 then some (x2, σ1) else some (x3, σ1)) 1000 0 σ (by omega) (by omega) (sp_KM.rf σ)
  rw [sp_B, nI_0] at z
  refine ⟨σ', ?_, hK⟩
  unfold fX4_needlessBy
  simp only [tl_be]
  rw [z]
  by_cases h1 : (sp_bN c N h fl he).1 = -1
  · rw [if_pos h1, if_pos h1]
  · rw [if_neg h1, if_neg h1]
    by_cases ha : a = 0
    · rw [if_pos ha, if_pos ha]
    · rw [if_neg ha, if_neg ha]
theorem sp_need_XL {σ0 c : tl_St} {he : Nat → Int32} {fl : Bool} {N h : Nat} (hC : sp_C c N h) (hH : sp_H c N he) (hR : sp_RX 1 σ0 c he N) (hf : σ0 1 1 = if fl then c 0 0 else 0) (k3 : tl_St → Int32 → Option (Int32 × tl_St)) : ∀ (n i : Nat) (σ : tl_St) (x5 x6 : Int32), i ≤ N → N - i < n → (∀ d, d < 10 ∨ 18 < d → σ d = σ0 d) → sp_ch (sp_B (sp_use c) (sp_fN c N h fl he) i) x5 x6 → ∃ σ' x5' x6', fX3_leastNeeded_L7 k3 n σ x5 x6 (nI i) = k3 σ' x5' ∧ (∀ d, d < 10 ∨ 18 < d → σ' d = σ0 d) ∧ sp_ch (sp_bN c N h fl he) x5' x6' := by
  have hN := hC.2.2.2.1
  intro n
  induction n with
  | zero => intro i σ x5 x6 h1 h2; omega
  | succ n ih =>
    intro i σ x5 x6 h1 h2 hfr hch
    have hRσ : sp_RX 1 σ c he N := by
      refine ⟨?_, ?_, ?_, fun j hj => ?_⟩
      · rw [hfr 1 (by omega)]; exact hR.1
      · rw [hfr 1 (by omega)]; exact hR.2.1
      · rw [hfr 1 (by omega)]; exact hR.2.2.1
      · rw [hfr (1 + 1) (by omega), hfr (1 + 2) (by omega), hfr (1 + 3) (by omega), hfr (1 + 4) (by omega), hfr (1 + 5) (by omega), hfr (1 + 6) (by omega)]; exact hR.2.2.2 j hj
    rw [fX3_leastNeeded_L7, hRσ.2.1]
    by_cases hi : i = N
    · subst hi
      rw [if_pos ((sp_le (by omega) (by omega)).mpr (Nat.le_refl _))]
      exact ⟨σ, x5, x6, rfl, hfr, hch⟩
    · have hi : i < N := by omega
      rw [if_neg (fun q => absurd ((sp_le (by omega) (by omega)).mp q) (by omega))]
      simp only [tl_be, fX2_isOut, hRσ.2.2.1]
      by_cases huse : sp_use c i
      · rw [if_pos huse, if_pos rfl]
        obtain ⟨σ9, z9, hR9, hi9, hf9⟩ := sp_like hC hRσ
        rw [z9]
        simp only [tl_oe, hR9.2.2.1]
        have hR11 : sp_RX 10 (tl_set σ9 10 3 (c 0 2 ||| sp_bitI i)) (sp_cN c i) he N := by
          unfold sp_cN
          refine ⟨?_, ?_, ?_, fun j hj => ?_⟩
          · rw [sp_sn (by decide), sp_sn (by decide)]; exact hR9.1
          · rw [sp_sn (by decide)]; exact hR9.2.1
          · rw [sp_ss, sp_ss]
          · rw [sp_n (d := 10 + 1) (by decide), sp_n (d := 10 + 2) (by decide), sp_n (d := 10 + 3) (by decide), sp_n (d := 10 + 4) (by decide), sp_n (d := 10 + 5) (by decide), sp_n (d := 10 + 6) (by decide), sp_n (d := 1) (by decide), sp_n (d := 2) (by decide), sp_n (d := 3) (by decide), sp_n (d := 4) (by decide)]
            exact hR9.2.2.2 j hj
        have hf11 : (tl_set σ9 10 3 (c 0 2 ||| sp_bitI i)) 10 1 = if fl then (sp_cN c i) 0 0 else 0 := by
          unfold sp_cN
          rw [sp_sn (by decide), sp_sn (by decide), hi9, hfr 1 (by omega)]; exact hf
        obtain ⟨r, σ13, z13, hf13, hr1, hr2⟩ := sp_drawn (T := 10) x6 (sp_C_N (i := i) hC) (sp_H_N hH) (by omega) hR11 hf11
        rw [show (10 : Int32) = nI 10 from rfl, z13]
        simp only [tl_oe2]
        have hfr13 : ∀ d, d < 10 ∨ 18 < d → σ13 d = σ0 d := fun d hd => by
          rw [hf13 d (by omega), sp_n (by omega), hf9 d (by omega), hfr d hd]
        obtain ⟨d, hd, ed⟩ := sp_fN_D (c := c) (N := N) (i := i) (fl := fl) (he := he) hC.2.2.1
        have hD : (sp_A (sp_cN c i) N h fl he 10).2.2 = nI d := ed
        rw [hD] at hr1 hr2
        rcases sp_ch_step hch (by omega) hd ed huse hr1 hr2 with ⟨hle, hc'⟩ | ⟨hle, hc'⟩
        · rw [if_pos hle, ← nI_succ]
          exact ih (i + 1) σ13 x5 x6 (by omega) (by omega) hfr13 hc'
        · rw [if_neg hle, ← nI_succ]
          exact ih (i + 1) σ13 _ r (by omega) (by omega) hfr13 hc'
      · rw [if_neg huse, if_neg (by decide), ← nI_succ]
        exact ih (i + 1) σ x5 x6 (by omega) (by omega) hfr (by rw [sp_B_skip huse]; exact hch)
theorem sp_leastNeeded {σ c : tl_St} {he : Nat → Int32} {fl : Bool} {N h : Nat} (hC : sp_C c N h) (hH : sp_H c N he) (hR : sp_RX 1 σ c he N) (hf : σ 1 1 = if fl then c 0 0 else 0) : ∃ σ' x5 x6, fX3_leastNeeded σ = some (x5, σ') ∧ (∀ d, d < 10 ∨ 18 < d → σ' d = σ d) ∧ sp_ch (sp_bN c N h fl he) x5 x6 := by
  have hN := hC.2.2.2.1
  obtain ⟨σ', x5, x6, z, h1, h2⟩ := sp_need_XL (σ0 := σ) (fl := fl) hC hH hR hf (fun σ1 x2 => some (x2, σ1)) 1000 0 σ (-1) 1000000 (by omega) (by omega) (fun _ _ => rfl) (Or.inl ⟨rfl, rfl, rfl⟩)
  rw [nI_0] at z
  refine ⟨σ', x5, x6, ?_, h1, h2⟩
  unfold fX3_leastNeeded
  simp only [tl_be]
  exact z
