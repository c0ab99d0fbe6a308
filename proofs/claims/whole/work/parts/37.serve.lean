/-! a boat is served -/
def sv_FX (σ c : tl_St) (he : Nat → Int32) (fl : Bool) (N h t : Nat) (a : Int32) (σ' : tl_St) : Prop :=
  sp_RX 1 σ' c (sp_tH c N h fl he) N ∧ σ' 1 1 = (if (!fl) then c 0 0 else 0) ∧ σ' 0 5 = nI (t + 1) ∧ σ' 33 = en_f (σ 33) t a c N h fl he ∧ σ' 0 6 = σ 0 6 + 1 ∧ σ' 0 7 = σ 0 7 + (if fl then 0 else sp_tO c N h fl he) ∧ σ' 0 8 = σ 0 8 + (if fl then sp_tO c N h fl he else 0) ∧ σ' 0 9 = σ 0 9 + sp_tL c N h fl he ∧ (∀ k, 9 < k → σ' 0 k = σ 0 k)
def sv_FM (σ c : tl_St) (he : Nat → Int32) (fl : Bool) (N h t : Nat) (a : Int32) (σ' : tl_St) : Prop :=
  sp_RM σ' c (sp_tH c N h fl he) N ∧ σ' 34 6 = sp_f (!fl) ∧ σ' 34 25 = nI (t + 1) ∧ σ' 49 = en_f (σ 49) t a c N h fl he ∧ σ' 34 29 = σ 34 29 + 1 ∧ σ' 34 26 = σ 34 26 + (if fl then 0 else sp_tO c N h fl he) ∧ σ' 34 27 = σ 34 27 + (if fl then sp_tO c N h fl he else 0) ∧ σ' 34 28 = σ 34 28 + sp_tL c N h fl he ∧ (∀ k, k ≠ 6 → k ≠ 20 → k ≠ 21 → (k < 25 ∨ 29 < k) → σ' 34 k = σ 34 k)
theorem sv_X {σ c : tl_St} {he : Nat → Int32} {fl : Bool} {N h t w b : Nat} {l : List Nat} (hC : sp_C c N h) (hH : sp_H c N he) (hX : sp_RX 1 σ c he N) (hXf : σ 1 1 = if fl then c 0 0 else 0) (h5 : σ 0 5 = nI t) (ht : t < 60) (hw : w < 2) (hr : bo_row σ (20 + 2 * w) l) (hl : 0 < l.length) : ∃ σ1, (tl_o1 (fX0_removeAt σ (20 + 2 * w) 0) fun σ12 => tl_o1 (fX3_makeTurnFor σ12 (nI b)) fun σ13 => some (nI b, σ13)) = some (nI b, σ1) ∧ sv_FX σ c he fl N h t (nI b) σ1 ∧ bo_row σ1 (20 + 2 * w) (l.eraseIdx 0) ∧ (∀ d, d ≠ 0 → d ≠ 1 → d ≠ 7 → d ≠ 8 → d ≠ 9 → d ≠ 33 → d ≠ 20 + 2 * w → d ≠ 20 + 2 * w + 1 → σ1 d = σ d) := by
  obtain ⟨σ12, z12, r12, f12, -⟩ := bo_remove hr hl
  rw [nI_0] at z12
  have g : ∀ d, d < 20 ∨ 23 < d → σ12 d = σ d := fun d hd => f12 d (by omega) (by omega)
  obtain ⟨σ1, z1, x1, x2, x3, x4, x5, x6, x7, x8, x9, x10, x11⟩ := en_X (σ := σ12) (t := t) (fl := fl) (nI b) hC hH (hX.cg (fun d _ _ => g d (by omega))) (by rw [g 1 (by omega)]; exact hXf) (by rw [g 0 (by omega)]; exact h5) ht
  refine ⟨σ1, ?_, ⟨x1, x2, x4, ?_, ?_, ?_, ?_, ?_, ?_⟩, r12.cg ?_ ?_, ?_⟩
  · rw [z12, tl_oe, z1, tl_oe]
  · rw [x5, g 33 (by omega)]
  · rw [x6, g 0 (by omega)]
  · rw [x7, g 0 (by omega)]
  · rw [x8, g 0 (by omega)]
  · rw [x9, g 0 (by omega)]
  · intro k hk; rw [x11 k hk, g 0 (by omega)]
  · rw [x10 _ (by omega) (by omega) (by omega) (by omega) (by omega) (by omega)]
  · rw [x10 _ (by omega) (by omega) (by omega) (by omega) (by omega) (by omega)]
  · intro d p0 p1 p2 p3 p4 p5 p6 p7
    rw [x10 d p0 p1 p2 p3 p4 p5, f12 d p6 p7]
theorem sv_M {σ c : tl_St} {he : Nat → Int32} {fl : Bool} {N h t b : Nat} (hC : sp_C c N h) (hH : sp_H c N he) (hM : sp_RM σ c he N) (hMf : σ 34 6 = sp_f fl) (h5 : σ 34 25 = nI t) (ht : t < 60) : ∃ σ1, (tl_o1 (fX4_does (tl_set σ 45 b 0) (nI b)) fun σ11 => some (nI b, σ11)) = some (nI b, σ1) ∧ sv_FM σ c he fl N h t (nI b) σ1 ∧ σ1 45 = tl_set σ 45 b 0 45 ∧ (∀ d, d ≠ 34 → d ≠ 43 → d ≠ 45 → d ≠ 46 → d ≠ 47 → d ≠ 49 → σ1 d = σ d) := by
  have g : ∀ d, d ≠ 45 → tl_set σ 45 b 0 d = σ d := fun d hd => sp_n hd
  obtain ⟨σ1, z1, m1, m2, m3, m4, m5, m6, m7, m8, m9, m10, m11⟩ := en_M (σ := tl_set σ 45 b 0) (t := t) (fl := fl) (nI b) hC hH (hM.cg (fun d _ _ => g d (by omega))) (by rw [g 34 (by decide)]; exact hMf) (by rw [g 34 (by decide)]; exact h5) ht
  refine ⟨σ1, ?_, ⟨m1, m2, m4, ?_, ?_, ?_, ?_, ?_, ?_⟩, ?_, ?_⟩
  · rw [z1, tl_oe]
  · rw [m5, g 49 (by decide)]
  · rw [m6, g 34 (by decide)]
  · rw [m7, g 34 (by decide)]
  · rw [m8, g 34 (by decide)]
  · rw [m9, g 34 (by decide)]
  · intro k p1 p2 p3 p4; rw [m11 k p1 p2 p3 p4, g 34 (by decide)]
  · rw [m10 45 (by decide) (by decide) (by decide) (by decide) (by decide)]
  · intro d p0 p1 p2 p3 p4 p5; rw [m10 d p0 p1 p3 p4 p5, g d p2]
theorem re_serve {σ : tl_St} (H : re_R σ) : ∃ r σ1 σ2, fX3_serve σ = some (r, σ1) ∧ fX4_serve σ1 = some (r, σ2) ∧ re_R σ2 := by
  obtain ⟨c, he, fl, N, h, u, t, C, H⟩ := H
  obtain ⟨⟨hC, hH, hu, hcu, hX, hXf, hM, hMf⟩, Hl, Hb, Hs⟩ := id H
  have HR : re_R σ := ⟨c, he, fl, N, h, u, t, C, H⟩
  have hN := hC.2.2.2.1
  obtain ⟨l1, l2, l3, l4, l5, l6, l7, l8, l9, l10⟩ := id Hl
  obtain ⟨b1, b2, b3, b4, b5⟩ := id Hb
  rcases bo_next H with ⟨h1, h2⟩ | ⟨w, b, hw, k1, k2, k3, k4, h1, h2⟩
  · refine ⟨-3, σ, σ, ?_, ?_, HR⟩
    · unfold fX3_serve
      rw [h1, tl_oe, if_pos rfl]
    · unfold fX4_serve
      rw [h2, tl_oe, if_pos rfl]
  · have hin : tl_in (nI w) 2 := sp_in (by omega) (by decide)
    have hcl : (nI w).toNatClampNeg = w := sp_cl (by omega)
    have hinb : tl_in (nI b) 100 := sp_in (by omega) (by decide)
    have hclb : (nI b).toNatClampNeg = b := sp_cl (by omega)
    have hlen : 0 < (re_q σ w C).length := (List.getElem?_eq_some_iff.mp k1).1
    have hT := bo_turnsX H hw
    have hNB := bo_nextBy1 b3 k2 hw k3.2 hMf h2
    have hside : fX4_isSide σ (nI w) = if w = bo_ws fl then 1 else 0 := bo_side hMf hw
    -- how the reference sees a state whose own cells are as in σ
    have mcong : ∀ σ1 : tl_St, (∀ d, 33 < d → σ1 d = σ d) → re_b σ1 C ∨ True → fX4_nextBoat σ1 = fX4_nextBoat σ ∧ fX4_nextBy σ1 1 = fX4_nextBy σ 1 ∧ fX4_isSide σ1 (nI w) = fX4_isSide σ (nI w) := by
      intro σ1 g _
      have e34 := g 34 (by omega)
      have e44 := g 44 (by omega)
      have e45 := g 45 (by omega)
      have hsd : ∀ x, fX4_isSide σ1 x = fX4_isSide σ x := by
        intro x; unfold fX4_isSide; rw [e34]
      have hL : ∀ (k4 : Int32 → Int32 → Option Int32) (n : Nat) (x8 x9 x10 : Int32), fX4_nextBoat_L11 σ1 k4 n x8 x9 x10 = fX4_nextBoat_L11 σ k4 n x8 x9 x10 := by
        intro k4 n
        induction n with
        | zero => intro x8 x9 x10; rfl
        | succ n ih =>
          intro x8 x9 x10
          rw [fX4_nextBoat_L11, fX4_nextBoat_L11]
          simp only [e44, e45, hsd, ih]
      have hnb : fX4_nextBoat σ1 = fX4_nextBoat σ := by
        unfold fX4_nextBoat
        simp only [e34, tl_be, hL]
      refine ⟨hnb, ?_, hsd _⟩
      unfold fX4_nextBy
      rw [hnb]
      simp only [e44, hsd]
    by_cases hws : w = bo_ws fl
    · rw [if_pos hws] at hT hNB hside
      by_cases ht : t < 60
      · obtain ⟨σ1, z1, x, r1, f1⟩ := sv_X (b := b) hC hH hX hXf l1 ht hw (bo_rowOf Hb hw) hlen
        have g : ∀ d, 33 < d → σ1 d = σ d := fun d hd => f1 d (by omega) (by omega) (by omega) (by omega) (by omega) (by omega) (by omega) (by omega)
        obtain ⟨σ2, z2, m, m45, f2⟩ := sv_M (σ := σ1) (fl := fl) (t := t) (b := b) hC hH (hM.cg (fun d p _ => g d p)) (by rw [g 34 (by omega)]; exact hMf) (by rw [g 34 (by omega)]; exact l2) ht
        have g2 : ∀ d, d < 34 → σ2 d = σ1 d := fun d hd => f2 d (by omega) (by omega) (by omega) (by omega) (by omega) (by omega)
        obtain ⟨c1, c2, c3⟩ := mcong σ1 g (Or.inr trivial)
        have e60 : nI t + 1 ≤ 60 := by rw [nI_1]; exact (sp_le (b := 60) (by omega) (by omega)).mpr (by omega)
        obtain ⟨x1, x2, x3, x4, x5, x6, x7, x8, x9⟩ := x
        obtain ⟨m1, m2, m3, m4, m5, m6, m7, m8, m9⟩ := m
        refine ⟨nI b, σ1, σ2, ?_, ?_, c, sp_tH c N h fl he, !fl, N, h, u, t + 1, C, ⟨hC, sp_tH_H hC hH, hu, hcu, x1.cg (fun d _ _ => g2 d (by omega)), by rw [g2 1 (by omega)]; exact x2, m1, m2⟩, ⟨?_, m3, by omega, ?_, ?_, ?_, ?_, ?_, ?_, ?_⟩, bo_gone Hb hw k1 r1 (x9 10 (by omega)) (fun d p1 p2 p3 p4 => f1 d (by omega) (by omega) (by omega) (by omega) (by omega) (by omega) p3 p4) (fun d p1 p2 => g2 d (by omega)) (by rw [g2 0 (by omega)]) (by rw [m9 14 (by decide) (by decide) (by decide) (by omega), g 34 (by omega)]) (by rw [f2 44 (by decide) (by decide) (by decide) (by decide) (by decide) (by decide), g 44 (by omega)]) (by rw [m45, sp_s, sp_s, g 45 (by omega)]), Hs.cg ?_ ?_⟩
        · unfold fX3_serve
          rw [h1, tl_oe, if_neg (sp_ne1 (by omega)), tl_be, hT, l1, if_pos e60, tl_be, if_neg (show ¬ (1 : Int32) = 2 by decide)]
          simp only [if_pos hin, hcl, tl_be, bo_boatAt Hb hw, tl_oe, k4]
          exact z1
        · unfold fX4_serve
          rw [c1, h2, tl_oe, if_neg (sp_ne1 (by omega)), c2, hNB, tl_oe, g 34 (by omega), l2, if_pos e60]
          simp only [if_pos hinb, hclb, g 44 (by omega), k3.2, tl_be, c3, hside, if_neg re_10]
          exact z2
        · rw [g2 0 (by omega)]; exact x3
        · rw [g2 33 (by omega), x4, m4, g 49 (by omega), l4]
        · rw [g2 0 (by omega), x5, m5, g 34 (by omega), l5]
        · rw [g2 0 (by omega), x6, m6, g 34 (by omega), l6]
        · rw [g2 0 (by omega), x7, m7, g 34 (by omega), l7]
        · rw [g2 0 (by omega), x8, m8, g 34 (by omega), l8]
        · rw [g2 0 (by omega), x9 11 (by omega), m9 17 (by decide) (by decide) (by decide) (by omega), g 34 (by omega), l9]
        · rw [g2 0 (by omega), x9 12 (by omega), m9 4 (by decide) (by decide) (by decide) (by omega), g 34 (by omega), l10]
        · intro d _ _; rw [g2 d (by omega), f1 d (by omega) (by omega) (by omega) (by omega) (by omega) (by omega) (by omega) (by omega)]
        · intro d _ _; rw [f2 d (by omega) (by omega) (by omega) (by omega) (by omega) (by omega), g d (by omega)]
      · have ht60 : t = 60 := by omega
        subst ht60
        refine ⟨-4, σ, σ, ?_, ?_, HR⟩
        · unfold fX3_serve
          rw [h1, tl_oe, if_neg (sp_ne1 (by omega)), tl_be, hT, l1, if_neg (by decide)]
        · unfold fX4_serve
          rw [h2, tl_oe, if_neg (sp_ne1 (by omega)), hNB, tl_oe, l2, if_neg (by decide)]
    · rw [if_neg hws] at hT hNB hside
      by_cases ht : t + 1 < 60
      · -- a turn without a boat ahead
        obtain ⟨σ0, z0, y1, y2, y3, y4, y5, y6, y7, y8, y9, y10, y11⟩ := en_X (-1) hC hH hX hXf l1 (show t < 60 by omega)
        have hH1 : sp_H c N (sp_tH c N h fl he) := sp_tH_H hC hH
        have g0 : ∀ d, (1 < d ∧ d < 7) ∨ (9 < d ∧ d < 33) ∨ 33 < d → σ0 d = σ d := fun d hd => y10 d (by omega) (by omega) (by omega) (by omega) (by omega) (by omega)
        have hrow0 : bo_row σ0 (20 + 2 * w) (re_q σ w C) := (bo_rowOf Hb hw).cg (by rw [g0 _ (by omega)]) (by rw [g0 _ (by omega)])
        obtain ⟨σ1, z1, x, r1, f1⟩ := sv_X (σ := σ0) (t := t + 1) (b := b) hC hH1 y1 y2 y4 ht hw hrow0 hlen
        have g : ∀ d, 33 < d → σ1 d = σ d := fun d hd => by
          rw [f1 d (by omega) (by omega) (by omega) (by omega) (by omega) (by omega) (by omega) (by omega), g0 d (by omega)]
        obtain ⟨c1, c2, c3⟩ := mcong σ1 g (Or.inr trivial)
        obtain ⟨σ3, z3, n1, n2, n3, n4, n5, n6, n7, n8, n9, n10, n11⟩ := en_M (σ := σ1) (t := t) (fl := fl) (-1) hC hH (hM.cg (fun d p _ => g d p)) (by rw [g 34 (by omega)]; exact hMf) (by rw [g 34 (by omega)]; exact l2) (by omega)
        obtain ⟨σ2, z2, m, m45, f2⟩ := sv_M (σ := σ3) (fl := !fl) (t := t + 1) (b := b) hC hH1 n1 n2 n4 ht
        have g3 : ∀ d, d < 34 ∨ (34 < d ∧ d < 43) ∨ d = 44 ∨ d = 45 → σ3 d = σ1 d := fun d hd => n10 d (by omega) (by omega) (by omega) (by omega) (by omega)
        have g2 : ∀ d, d < 34 → σ2 d = σ1 d := fun d hd => by
          rw [f2 d (by omega) (by omega) (by omega) (by omega) (by omega) (by omega), g3 d (by omega)]
        have e60 : nI t + 2 ≤ 60 := by rw [show (2 : Int32) = nI 2 from rfl, nI_add]; exact (sp_le (b := 60) (by omega) (by omega)).mpr (by omega)
        obtain ⟨x1, x2, x3, x4, x5, x6, x7, x8, x9⟩ := x
        obtain ⟨m1, m2, m3, m4, m5, m6, m7, m8, m9⟩ := m
        have hbA : bo_at (re_q σ w C) 0 = nI b := k4
        have hboat : fX0_boatAt σ0 (20 + 2 * w) 0 = some (nI b) := by
          have e1 : fX0_boatAt σ0 (20 + 2 * w) 0 = fX0_boatAt σ (20 + 2 * w) 0 := by
            unfold fX0_boatAt
            rw [g0 (20 + 2 * w) (by omega), g0 (20 + 2 * w + 1) (by omega)]
          rw [e1, bo_boatAt Hb hw, hbA]
        refine ⟨nI b, σ1, σ2, ?_, ?_, c, sp_tH c N h (!fl) (sp_tH c N h fl he), !(!fl), N, h, u, t + 1 + 1, C, ⟨hC, sp_tH_H hC hH1, hu, hcu, x1.cg (fun d _ _ => g2 d (by omega)), by rw [g2 1 (by omega)]; exact x2, m1, m2⟩, ⟨?_, m3, by omega, ?_, ?_, ?_, ?_, ?_, ?_, ?_⟩, bo_gone Hb hw k1 r1 (by rw [x9 10 (by omega), y11 10 (by omega)]) (fun d p1 p2 p3 p4 => by rw [f1 d (by omega) (by omega) (by omega) (by omega) (by omega) (by omega) p3 p4, g0 d (by omega)]) (fun d p1 p2 => g2 d (by omega)) (by rw [g2 0 (by omega)]) (by rw [m9 14 (by decide) (by decide) (by decide) (by omega), n11 14 (by decide) (by decide) (by decide) (by omega), g 34 (by omega)]) (by rw [f2 44 (by decide) (by decide) (by decide) (by decide) (by decide) (by decide), g3 44 (by omega), g 44 (by omega)]) (by rw [m45, sp_s, sp_s, g3 45 (by omega), g 45 (by omega)]), Hs.cg ?_ ?_⟩
        · unfold fX3_serve
          rw [h1, tl_oe, if_neg (sp_ne1 (by omega)), tl_be, hT, l1, if_pos e60, tl_be, if_pos rfl, z0, tl_oe]
          simp only [if_pos hin, hcl, tl_be, hboat, tl_oe]
          exact z1
        · unfold fX4_serve
          rw [c1, h2, tl_oe, if_neg (sp_ne1 (by omega)), c2, hNB, tl_oe, g 34 (by omega), l2, if_pos e60]
          simp only [if_pos hinb, hclb, g 44 (by omega), k3.2, tl_be, c3, hside, if_true, z3, tl_oe]
          exact z2
        · rw [g2 0 (by omega)]; exact x3
        · rw [g2 33 (by omega), x4, m4, y5, n5, g 49 (by omega), l4]
        · rw [g2 0 (by omega), x5, m5, y6, n6, g 34 (by omega), l5]
        · rw [g2 0 (by omega), x6, m6, y7, n7, g 34 (by omega), l6]
        · rw [g2 0 (by omega), x7, m7, y8, n8, g 34 (by omega), l7]
        · rw [g2 0 (by omega), x8, m8, y9, n9, g 34 (by omega), l8]
        · rw [g2 0 (by omega), x9 11 (by omega), y11 11 (by omega), m9 17 (by decide) (by decide) (by decide) (by omega), n11 17 (by decide) (by decide) (by decide) (by omega), g 34 (by omega), l9]
        · rw [g2 0 (by omega), x9 12 (by omega), y11 12 (by omega), m9 4 (by decide) (by decide) (by decide) (by omega), n11 4 (by decide) (by decide) (by decide) (by omega), g 34 (by omega), l10]
        · intro d _ _; rw [g2 d (by omega), f1 d (by omega) (by omega) (by omega) (by omega) (by omega) (by omega) (by omega) (by omega), g0 d (by omega)]
        · intro d _ _; rw [f2 d (by omega) (by omega) (by omega) (by omega) (by omega) (by omega), g3 d (by omega), g d (by omega)]
      · have e60 : ¬ nI t + 2 ≤ 60 := by
          rw [show (2 : Int32) = nI 2 from rfl, nI_add]
          intro q
          exact absurd ((sp_le (b := 60) (by omega) (by omega)).mp q) (by omega)
        refine ⟨-4, σ, σ, ?_, ?_, HR⟩
        · unfold fX3_serve
          rw [h1, tl_oe, if_neg (sp_ne1 (by omega)), tl_be, hT, l1, if_neg e60]
        · unfold fX4_serve
          rw [h2, tl_oe, if_neg (sp_ne1 (by omega)), hNB, tl_oe, l2, if_neg e60]

