/-- the reference's turn, with its row -/
theorem en_M {σ c : tl_St} {he : Nat → Int32} {fl : Bool} {N h t : Nat} (a : Int32) (hC : sp_C c N h) (hH : sp_H c N he) (hM : sp_RM σ c he N) (hMf : σ 34 6 = sp_f fl) (h5 : σ 34 25 = nI t) (ht : t < 60) : ∃ σ', fX4_does σ a = some σ' ∧ sp_RM σ' c (sp_tH c N h fl he) N ∧ σ' 34 6 = sp_f (!fl) ∧ σ' 34 20 = sp_tO c N h fl he ∧ σ' 34 25 = nI (t + 1) ∧ σ' 49 = en_f (σ 49) t a c N h fl he ∧ σ' 34 29 = σ 34 29 + 1 ∧ σ' 34 26 = σ 34 26 + (if fl then 0 else sp_tO c N h fl he) ∧ σ' 34 27 = σ 34 27 + (if fl then sp_tO c N h fl he else 0) ∧ σ' 34 28 = σ 34 28 + sp_tL c N h fl he ∧ (∀ d, d ≠ 34 → d ≠ 43 → d ≠ 46 → d ≠ 47 → d ≠ 49 → σ' d = σ d) ∧ (∀ k, k ≠ 6 → k ≠ 20 → k ≠ 21 → (k < 25 ∨ 29 < k) → σ' 34 k = σ 34 k) := by
  obtain ⟨σ4, z4, b1, b2, b3, b4, b5, b6, b7, b8⟩ := sp_moves hC hH hM hMf
  have e49 : σ4 49 = σ 49 := b7 49 (by decide) (by decide) (by decide) (by decide)
  have ex1 : 9 * σ 34 25 = nI (9 * t) := by rw [h5, show (9 : Int32) = nI 9 from rfl, pk_mul]
  have i0 : tl_in (nI (9 * t)) 540 := sp_in (by omega) (by decide)
  have i1 : tl_in (nI (9 * t + 1)) 540 := sp_in (by omega) (by decide)
  have i2 : tl_in (nI (9 * t + 2)) 540 := sp_in (by omega) (by decide)
  have i3 : tl_in (nI (9 * t + 3)) 540 := sp_in (by omega) (by decide)
  have i4 : tl_in (nI (9 * t + 4)) 540 := sp_in (by omega) (by decide)
  have c0 : (nI (9 * t)).toNatClampNeg = 9 * t := sp_cl (by omega)
  have c1 : (nI (9 * t + 1)).toNatClampNeg = 9 * t + 1 := sp_cl (by omega)
  have c2 : (nI (9 * t + 2)).toNatClampNeg = 9 * t + 2 := sp_cl (by omega)
  have c3 : (nI (9 * t + 3)).toNatClampNeg = 9 * t + 3 := sp_cl (by omega)
  have c4 : (nI (9 * t + 4)).toNatClampNeg = 9 * t + 4 := sp_cl (by omega)
  have a1 : nI (9 * t) + 1 = nI (9 * t + 1) := nI_1 _
  have a2 : nI (9 * t) + 2 = nI (9 * t + 2) := nI_add _ 2
  have a3 : nI (9 * t) + 3 = nI (9 * t + 3) := nI_add _ 3
  have a4 : nI (9 * t) + 4 = nI (9 * t + 4) := nI_add _ 4
  obtain ⟨σ13, e13⟩ : ∃ z, z = tl_set (tl_set (tl_set (tl_set (tl_set σ4 49 (9 * t) a) 49 (9 * t + 1) (if fl then 0 else 1)) 49 (9 * t + 2) (c 0 0 - sp_tO c N h fl he)) 49 (9 * t + 3) (sp_tO c N h fl he)) 49 (9 * t + 4) (sp_tL c N h fl he) := ⟨_, rfl⟩
  have g49 : σ13 49 = en_4 (σ 49) t a (if fl then 0 else 1) (c 0 0 - sp_tO c N h fl he) (sp_tO c N h fl he) (sp_tL c N h fl he) := by
    rw [e13, sp_s, sp_s, sp_s, sp_s, sp_s, e49]; rfl
  have gd : ∀ d, d ≠ 49 → σ13 d = σ4 d := fun d q => by rw [e13, sp_n q, sp_n q, sp_n q, sp_n q, sp_n q]
  -- what follows the row
  obtain ⟨K, eK⟩ : ∃ K : tl_St → Option tl_St, K = fun σ17 => some (tl_set (tl_set (tl_set (tl_set (tl_set σ17 34 26 (σ17 34 26 + if fl then 0 else σ17 34 20)) 34 27 ((tl_set σ17 34 26 (σ17 34 26 + if fl then 0 else σ17 34 20)) 34 27 + if fl then (tl_set σ17 34 26 (σ17 34 26 + if fl then 0 else σ17 34 20)) 34 20 else 0)) 34 28 ((tl_set (tl_set σ17 34 26 (σ17 34 26 + if fl then 0 else σ17 34 20)) 34 27 ((tl_set σ17 34 26 (σ17 34 26 + if fl then 0 else σ17 34 20)) 34 27 + if fl then (tl_set σ17 34 26 (σ17 34 26 + if fl then 0 else σ17 34 20)) 34 20 else 0)) 34 28 + (tl_set (tl_set σ17 34 26 (σ17 34 26 + if fl then 0 else σ17 34 20)) 34 27 ((tl_set σ17 34 26 (σ17 34 26 + if fl then 0 else σ17 34 20)) 34 27 + if fl then (tl_set σ17 34 26 (σ17 34 26 + if fl then 0 else σ17 34 20)) 34 20 else 0)) 34 21)) 34 29 (σ17 34 29 + 1)) 34 25 (σ17 34 25 + 1)) := ⟨_, rfl⟩
  obtain ⟨σ14, z14, p1, p2⟩ := en_ML (f := en_4 (σ 49) t a (if fl then 0 else 1) (c 0 0 - sp_tO c N h fl he) (sp_tO c N h fl he) (sp_tL c N h fl he)) (mv := (sp_S c fl N he h).2.2) ht σ13 K 1000 0 σ13 (by omega) (by omega) g49 (fun _ _ => rfl) (fun j hj => by rw [gd 47 (by decide)]; exact b5 j hj)
  rw [nI_0] at z14
  have m34 : σ14 34 = σ4 34 := by rw [p2 34 (by decide), gd 34 (by decide)]
  obtain ⟨σ5, e5⟩ : ∃ z, K σ14 = some z := ⟨_, by rw [eK]⟩
  have hdoes : fX4_does σ a = K σ14 := by
    rw [← z14]
    unfold fX4_does
    simp only [tl_be, z4, tl_oe, ex1, if_pos i0, a1, a2, a3, a4, if_pos i1, if_pos i2, if_pos i3, if_pos i4, c0, c1, c2, c3, c4]
    have s1 : ∀ (σ9 : tl_St) (k : Nat) (v : Int32), tl_set σ9 49 k v 34 = σ9 34 := fun σ9 k v => sp_n (by decide)
    simp only [s1, b1.1, b3, b4, hMf]
    rw [e13, eK]
    cases fl
    · rw [if_pos (show sp_f false = 0 from rfl)]
      simp [sp_sn]
    · rw [if_neg (show ¬ sp_f true = 0 from by decide)]
      simp [sp_sn]
  rw [eK] at e5
  have e5 := (Option.some.inj e5).symm
  have q25 : σ5 34 25 = nI (t + 1) := by
    rw [e5, sp_ss, m34, b8 25 (by decide) (by decide) (by decide), h5, nI_1]
  refine ⟨σ5, ?_, ?_, ?_, ?_, q25, ?_, ?_, ?_, ?_, ?_, fun d q0 q1 q2 q3 q4 => ?_, fun k q1 q2 q3 q4 => ?_⟩
  · rw [hdoes, eK, e5]
  · have gk : ∀ k, k < 25 → σ5 34 k = σ4 34 k := fun k hk => by
      rw [e5, sp_sn (by omega), sp_sn (by omega), sp_sn (by omega), sp_sn (by omega), sp_sn (by omega), m34]
    have gc : ∀ d, d ≠ 34 → d ≠ 49 → σ5 d = σ4 d := fun d q q9 => by
      rw [e5, sp_n q, sp_n q, sp_n q, sp_n q, sp_n q, p2 d q9, gd d q9]
    refine ⟨?_, ?_, ?_, fun i hi => ?_⟩
    · rw [gk 5 (by omega)]; exact b1.1
    · rw [gk 7 (by omega)]; exact b1.2.1
    · rw [gk 13 (by omega)]; exact b1.2.2.1
    · rw [gc 39 (by decide) (by decide), gc 40 (by decide) (by decide), gc 41 (by decide) (by decide), gc 42 (by decide) (by decide), gc 43 (by decide) (by decide)]; exact b1.2.2.2 i hi
  · rw [e5, sp_sn (by decide), sp_sn (by decide), sp_sn (by decide), sp_sn (by decide), sp_sn (by decide), m34]; exact b2
  · rw [e5, sp_sn (by decide), sp_sn (by decide), sp_sn (by decide), sp_sn (by decide), sp_sn (by decide), m34]; exact b3
  · rw [e5, sp_n (by decide), sp_n (by decide), sp_n (by decide), sp_n (by decide), sp_n (by decide), p1]; rfl
  · rw [e5, sp_sn (by decide), sp_ss, m34, b8 29 (by decide) (by decide) (by decide)]
  · rw [e5, sp_sn (by decide), sp_sn (by decide), sp_sn (by decide), sp_sn (by decide), sp_ss, m34, b8 26 (by decide) (by decide) (by decide), b3]
  · rw [e5, sp_sn (by decide), sp_sn (by decide), sp_sn (by decide), sp_ss, sp_sn (by decide), sp_sn (by decide), m34, b8 27 (by decide) (by decide) (by decide), b3]
  · rw [e5, sp_sn (by decide), sp_sn (by decide), sp_ss, sp_sn (by decide), sp_sn (by decide), sp_sn (by decide), sp_sn (by decide), m34, b8 28 (by decide) (by decide) (by decide), b4]
  · rw [e5, sp_n q0, sp_n q0, sp_n q0, sp_n q0, sp_n q0, p2 d q4, gd d q4]; exact b7 d q0 q1 q2 q3
  · rw [e5, sp_sn (by omega), sp_sn (by omega), sp_sn (by omega), sp_sn (by omega), sp_sn (by omega), m34]; exact b8 k q1 q2 q3
/-- TURN -/
theorem re_turn {σ : tl_St} (H : re_R σ) : ∃ r σ1 σ2, fX3_turn σ = some (r, σ1) ∧ fX4_turn σ1 = some (r, σ2) ∧ re_R σ2 := by
  obtain ⟨c, he, fl, N, h, u, t, C, H⟩ := H
  obtain ⟨⟨hC, hH, hu, hcu, hX, hXf, hM, hMf⟩, Hl, Hb, Hs⟩ := id H
  have HR : re_R σ := ⟨c, he, fl, N, h, u, t, C, H⟩
  have hN := hC.2.2.2.1
  obtain ⟨l1, l2, l3, l4, l5, l6, l7, l8, l9, l10⟩ := id Hl
  by_cases ht : t = 60
  · subst ht
    refine ⟨-4, σ, σ, ?_, ?_, HR⟩
    · unfold fX3_turn
      rw [l1, if_neg (by decide)]
    · unfold fX4_turn
      rw [l2, if_pos (by decide)]
  · have ht : t < 60 := by omega
    obtain ⟨σ1, z1, x1, x2, x3, x4, x5, x6, x7, x8, x9, x10, x11⟩ := en_X (-1) hC hH hX hXf l1 ht
    have g : ∀ d, 33 < d → σ1 d = σ d := fun d hd => x10 d (by omega) (by omega) (by omega) (by omega) (by omega) (by omega)
    obtain ⟨σ2, z2, m1, m2, m3, m4, m5, m6, m7, m8, m9, m10, m11⟩ := en_M (σ := σ1) (t := t) (fl := fl) (-1) hC hH (hM.cg (fun d q _ => g d q)) (by rw [g 34 (by omega)]; exact hMf) (by rw [g 34 (by omega)]; exact l2) ht
    have g2 : ∀ d, d < 34 → σ2 d = σ1 d := fun d hd => m10 d (by omega) (by omega) (by omega) (by omega) (by omega)
    refine ⟨sp_tO c N h fl he, σ1, σ2, ?_, ?_, c, sp_tH c N h fl he, !fl, N, h, u, t + 1, C, ⟨hC, sp_tH_H hC hH, hu, hcu, x1.cg (fun d _ _ => g2 d (by omega)), by rw [g2 1 (by omega)]; exact x2, m1, m2⟩, ⟨?_, m4, by omega, ?_, ?_, ?_, ?_, ?_, ?_, ?_⟩, Hb.cg ?_ ?_ ?_ ?_ ?_, Hs.cg ?_ ?_⟩
    · unfold fX3_turn
      rw [l1, if_pos (show nI t < 60 from (sp_lt (b := 60) (by omega) (by omega)).mpr ht), z1, tl_oe, x3]
    · unfold fX4_turn
      have hne : ¬ nI t = 60 := fun e => absurd ((nI_eq (b := 60) (by omega) (by omega)).mp e) (by omega)
      rw [g 34 (by omega), l2, if_neg hne, z2, tl_oe, m3]
    · rw [g2 0 (by omega)]; exact x4
    · rw [g2 33 (by omega), x5, m5, g 49 (by omega), l4]
    · rw [g2 0 (by omega), x6, m6, g 34 (by omega), l5]
    · rw [g2 0 (by omega), x7, m7, g 34 (by omega), l6]
    · rw [g2 0 (by omega), x8, m8, g 34 (by omega), l7]
    · rw [g2 0 (by omega), x9, m9, g 34 (by omega), l8]
    · rw [g2 0 (by omega), x11 11 (by omega), m11 17 (by omega) (by omega) (by omega) (by omega), g 34 (by omega), l9]
    · rw [g2 0 (by omega), x11 12 (by omega), m11 4 (by omega) (by omega) (by omega) (by omega), g 34 (by omega), l10]
    · rw [g2 0 (by omega), x11 10 (by omega)]
    · intro d q1 q2; rw [g2 d (by omega), x10 d (by omega) (by omega) (by omega) (by omega) (by omega) (by omega)]
    · rw [m11 14 (by omega) (by omega) (by omega) (by omega), g 34 (by omega)]
    · rw [m10 44 (by omega) (by omega) (by omega) (by omega) (by omega), g 44 (by omega)]
    · rw [m10 45 (by omega) (by omega) (by omega) (by omega) (by omega), g 45 (by omega)]
    · intro d q1 q2; rw [g2 d (by omega), x10 d (by omega) (by omega) (by omega) (by omega) (by omega) (by omega)]
    · intro d q1 q2; rw [m10 d (by omega) (by omega) (by omega) (by omega) (by omega), g d (by omega)]

