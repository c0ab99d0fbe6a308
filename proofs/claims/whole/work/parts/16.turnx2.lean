theorem sp_lose_X {σ c : tl_St} {he : Nat → Int32} {w N h : Nat} (hC : sp_C c N h) (hR : sp_RX w σ c he N) : ∃ σ', fX2_loseByLeaks σ w = some σ' ∧ sp_RX w σ' c (sp_L c he N).1 N ∧ σ' w 13 = (sp_L c he N).2 ∧ (∀ d, d ≠ w → d ≠ w + 6 → σ' d = σ d) ∧ (∀ f, f ≠ 13 → σ' w f = σ w f) := by
  have hN := hC.2.2.2.1
  have hR1 : sp_RX w (tl_set σ w 13 0) c he N := by
    refine ⟨?_, ?_, ?_, fun i hi => ?_⟩
    · rw [sp_sn (by decide)]; exact hR.1
    · rw [sp_sn (by decide)]; exact hR.2.1
    · rw [sp_sn (by decide)]; exact hR.2.2.1
    · rw [sp_n (by omega), sp_n (by omega), sp_n (by omega), sp_n (by omega), sp_n (by omega), sp_n (by omega)]; exact hR.2.2.2 i hi
  obtain ⟨σ', z, q1, q2, q3, q4⟩ := sp_leak_X (σ0 := tl_set σ w 13 0) (he := he) hC (fun σ2 => some σ2) 1000 0 (tl_set σ w 13 0) (by omega) (by omega) hR1 sp_ss (fun _ _ _ => rfl) (fun _ _ => rfl)
  rw [nI_0] at z
  refine ⟨σ', ?_, q1, q2, fun d h1 h2 => ?_, fun f h1 => ?_⟩
  · unfold fX2_loseByLeaks
    simp only [tl_be]
    exact z
  · rw [q3 d h1 h2, sp_n h1]
  · rw [q4 f h1, sp_sn h1]
def sp_TX (w : Nat) (σ0 c : tl_St) (he : Nat → Int32) (fl : Bool) (N h : Nat) (σ : tl_St) : Prop :=
  sp_RX w σ c (sp_tH c N h fl he) N ∧ σ w 1 = (if (!fl) then c 0 0 else 0) ∧ σ w 12 = sp_tO c N h fl he ∧ σ w 13 = sp_tL c N h fl he ∧ (∀ i, i < 4 → σ (w + 8) i = (sp_S c fl N he h).2.2 i) ∧ (∀ j, j < h → σ (w + 7) j = sp_st c fl N he j) ∧ (∀ d, d ≠ w → d ≠ w + 6 → d ≠ w + 7 → d ≠ w + 8 → σ d = σ0 d) ∧ (∀ f, f ≠ 1 → f ≠ 12 → f ≠ 13 → σ w f = σ0 w f)
theorem sp_makeTurn {σ c : tl_St} {he : Nat → Int32} {fl : Bool} {w N h : Nat} (hC : sp_C c N h) (hH : sp_H c N he) (hR : sp_RX w σ c he N) (hf : σ w 1 = if fl then c 0 0 else 0) : ∃ σ', fX2_makeTurn σ w = some σ' ∧ sp_TX w σ c he fl N h σ' := by
  obtain ⟨hc0, hh1, hh6, hN, hcs⟩ := id hC
  obtain ⟨σ5, z5, f1, f2⟩ := sp_fill (a := w + 8) (n1 := 4) (v := 0) (by omega) σ
  have hunf : fX2_makeTurn σ w = fX2_makeTurn_L38 w (if fl then 0 else 1) (if fl then -1 else 1) (fun σ7 => tl_o1 (fX2_loseByLeaks σ7 w) fun σ9 => some σ9) 1000 (tl_set σ5 w 12 0) 0 := by
    unfold fX2_makeTurn
    simp only [tl_be]
    rw [z5, hf]
    simp only [tl_oe]
    cases fl
    · simp
    · have h0 : ¬ nI h = 0 := nI_ne0 (by omega) (by omega)
      simp [hc0, h0]
  have hP0 : sp_PX w (tl_set σ5 w 12 0) c he fl N h 0 (tl_set σ5 w 12 0) := by
    refine ⟨⟨?_, ?_, ?_, fun i hi => ?_⟩, ?_, ?_, fun i hi => ?_, fun j hj => absurd hj (by omega), fun _ _ _ _ _ => rfl, fun _ _ _ => rfl⟩
    · rw [sp_sn (by decide), f2 w (by omega)]; exact hR.1
    · rw [sp_sn (by decide), f2 w (by omega)]; exact hR.2.1
    · rw [sp_sn (by decide), f2 w (by omega)]; exact hR.2.2.1
    · rw [sp_n (by omega), sp_n (by omega), sp_n (by omega), sp_n (by omega), sp_n (by omega), sp_n (by omega), f2 _ (by omega), f2 _ (by omega), f2 _ (by omega), f2 _ (by omega), f2 _ (by omega), f2 _ (by omega)]; exact hR.2.2.2 i hi
    · rw [sp_sn (by decide), f2 w (by omega), hf, hc0]
      cases fl
      · simp [nI_0]
      · simp
    · rw [sp_ss]; rfl
    · rw [sp_n (by omega), f1 i hi]; rfl
  obtain ⟨σ3, z2, hP⟩ := sp_turn_L (w := w) hC hH (fun σ7 => tl_o1 (fX2_loseByLeaks σ7 w) fun σ9 => some σ9) 1000 0 (tl_set σ5 w 12 0) (by omega) (by omega) hP0
  rw [nI_0] at z2
  obtain ⟨p1, p2, p3, p4, p5, p6, p7⟩ := hP
  obtain ⟨σ4, z4, q1, q2, q3, q4⟩ := sp_lose_X hC p1
  refine ⟨σ4, ?_, q1, ?_, ?_, q2, fun i hi => ?_, fun j hj => ?_, fun d h1 h2 h3 h4 => ?_, fun f h1 h2 h3 => ?_⟩
  · rw [hunf, z2, z4, tl_oe]
  · rw [q4 1 (by decide), p2, hc0]
    cases fl
    · simp
    · simp [nI_0]
  · rw [q4 12 (by decide), p3]; rfl
  · rw [q3 _ (by omega) (by omega)]; exact p4 i hi
  · rw [q3 _ (by omega) (by omega)]; exact p5 j hj
  · rw [q3 d h1 h2, p6 d h1 h2 h3 h4, sp_n h1, f2 d h4]
  · rw [q4 f h3, p7 f h1 h2, sp_sn h2, f2 w (by omega)]
/-- the trial becomes like the water -/
theorem sp_like {σ c : tl_St} {he : Nat → Int32} {N h : Nat} (hC : sp_C c N h) (hR : sp_RX 1 σ c he N) : ∃ σ', fX2_becomeLike σ 10 1 = some σ' ∧ sp_RX 10 σ' c he N ∧ σ' 10 1 = σ 1 1 ∧ (∀ d, d < 10 ∨ 16 < d → σ' d = σ d) := by
  have hN := hC.2.2.2.1
  unfold fX2_becomeLike
  simp only [tl_be]
  have hcp : ∀ (f g : Nat → Int32) (k : Nat), va_cpy f g 0 0 4 k = if k < 4 then f k else g k := by
    intro f g k
    unfold va_cpy
    simp
  refine ⟨_, rfl, ⟨?_, ?_, ?_, fun i hi => ?_⟩, ?_, fun d hd => ?_⟩
  · simp [tl_set, tl_setC, upd, hR.1]
  · simp [tl_set, tl_setC, upd, hR.2.1]
  · simp [tl_set, tl_setC, upd, hR.2.2.1]
  · obtain ⟨e1, e2, e3, e4, e5, e6⟩ := hR.2.2.2 i hi
    have h4 : i < 4 := by omega
    simp [tl_set, tl_setC, upd, hcp, h4] at e1 e2 e3 e4 e5 e6 ⊢
    exact ⟨e1, e2, e3, e4, e5, e6⟩
  · simp [tl_set, tl_setC, upd]
  · have h1 : d ≠ 10 := by omega
    have h2 : d ≠ 11 := by omega
    have h3 : d ≠ 12 := by omega
    have h4 : d ≠ 13 := by omega
    have h5 : d ≠ 14 := by omega
    have h6 : d ≠ 15 := by omega
    have h7 : d ≠ 16 := by omega
    simp [tl_set, tl_setC, h1, h2, h3, h4, h5, h6, h7]
