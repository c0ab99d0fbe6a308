/-! lay, get, write -/
theorem re_fault {σ : tl_St} {s z : Nat} (hs : s < 4) (hz : re_s1 σ s z) (form i : Int32) : (fX1_faultAt σ (25 + 2 * s) form i = 0 ∧ (∃ f j, f < 3 ∧ form = nI f ∧ σ (25 + 2 * s) 1 = nI f ∧ σ 35 s = nI f ∧ j < z ∧ i = nI j) ∧ ∀ σ', σ' 35 s = σ 35 s → σ' 36 s = σ 36 s → fX4_lacks σ' (nI s) form i = some (0, σ')) ∨ ∃ k, (k = 1 ∨ k = 2 ∨ k = 3) ∧ fX1_faultAt σ (25 + 2 * s) form i = k ∧ ∀ σ', σ' 35 s = σ 35 s → σ' 36 s = σ 36 s → fX4_lacks σ' (nI s) form i = some (-10 - k, tl_set σ' 34 4 k) := by
  have hin : tl_in (nI s) 4 := sp_in (by omega) (by decide)
  have hcl : (nI s).toNatClampNeg = s := sp_cl (by omega)
  have hz60 := hz.1
  unfold fX1_faultAt fX4_lacks
  simp only [tl_be, re_fM, tl_be2, if_pos hin, hcl]
  rcases re_lostX hz with ⟨q1, q2, f, hf, e1, e2⟩ | ⟨q1, q2⟩
  · rw [if_pos q1]
    by_cases h1 : form = nI f
    · rw [if_pos (show σ (25 + 2 * s) 1 = form by rw [e1, h1]), hz.2.1]
      by_cases h2 : i < 0
      · refine Or.inr ⟨2, Or.inr (Or.inl rfl), by rw [if_pos h2], fun σ' g1 g2 => ?_⟩
        rw [g1, if_pos q2, if_pos (show σ 35 s = form by rw [e2, h1]), g2, hz.2.2.1, show (0 : Int64) = (0 : Int32).toInt64 from by decide, re_in, if_pos h2, if_pos rfl]
      · rw [if_neg h2]
        by_cases h3 : i < nI z
        · rw [if_pos h3]
          obtain ⟨j, hj, rfl⟩ := nI_of h2
          have hjz := (sp_lt (by omega) (by omega)).mp h3
          refine Or.inl ⟨rfl, ⟨f, j, hf, h1, e1, e2, hjz, rfl⟩, fun σ' g1 g2 => ?_⟩
          rw [g1, if_pos q2, if_pos (show σ 35 s = form by rw [e2, h1]), g2, hz.2.2.1, show (0 : Int64) = (0 : Int32).toInt64 from by decide, re_in, if_neg h2, if_neg (fun q => absurd ((re_hi z (by omega) _ h2).mp q) (Int32.not_le.mpr h3)), if_neg re_10]
        · rw [if_neg h3]
          refine Or.inr ⟨2, Or.inr (Or.inl rfl), rfl, fun σ' g1 g2 => ?_⟩
          rw [g1, if_pos q2, if_pos (show σ 35 s = form by rw [e2, h1]), g2, hz.2.2.1, show (0 : Int64) = (0 : Int32).toInt64 from by decide, re_in, if_neg h2, if_pos ((re_hi z (by omega) _ h2).mpr (Int32.not_lt.mp h3)), if_pos rfl]
    · refine Or.inr ⟨3, Or.inr (Or.inr rfl), by rw [if_neg (show ¬ σ (25 + 2 * s) 1 = form from fun q => h1 (by rw [← q, e1]))], fun σ' g1 g2 => ?_⟩
      rw [g1, if_pos q2, if_neg (show ¬ σ 35 s = form from fun q => h1 (by rw [← q, e2]))]
  · refine Or.inr ⟨1, Or.inl rfl, by rw [if_neg q1], fun σ' g1 g2 => ?_⟩
    rw [g1, if_neg q2]
def re_cut (f : Nat) (v : Int32) : Int32 := if f = 0 then v.toInt8.toInt32 else if f = 1 then v.toInt16.toInt32 else v
theorem re_cutM {f : Nat} (hf : f < 3) (σ : tl_St) (v : Int32) : fX4_cut σ (nI f) v = re_cut f v := by
  rcases (show f = 0 ∨ f = 1 ∨ f = 2 by omega) with rfl | rfl | rfl <;> rfl
theorem re_put {σ : tl_St} {o f j : Nat} (hf : f < 3) (e : σ o 1 = nI f) (hj : j < 60) (v : Int32) : fX1_put σ o (nI j) v = some (tl_set σ (o + 1) j (re_cut f v)) := by
  have hin : tl_in (nI j) 60 := sp_in (by omega) (by decide)
  have hcl : (nI j).toNatClampNeg = j := sp_cl (by omega)
  unfold fX1_put
  simp only [tl_be, e, if_pos hin, hcl]
  rcases (show f = 0 ∨ f = 1 ∨ f = 2 by omega) with rfl | rfl | rfl <;> rfl
theorem re_nf {k : Int32} (h : k = 1 ∨ k = 2 ∨ k = 3) : ¬ k = 0 ∧ ¬ (-10 - k = 0) := by
  rcases h with rfl | rfl | rfl <;> decide
theorem re_lay {σ : tl_St} (H : re_R σ) (a b i v : Int32) : ∃ r σ1 σ2, fX3_lay σ a b i v = some (r, σ1) ∧ fX4_lay σ1 a b i v = some (r, σ2) ∧ re_R σ2 := by
  obtain ⟨c, he, fl, N, h, u, t, C, H⟩ := H
  obtain ⟨⟨hC, hH, hu, hcu, hX, hXf, hM, hMf⟩, Hl, Hb, Hs⟩ := id H
  have HR : re_R σ := ⟨c, he, fl, N, h, u, t, C, H⟩
  have hN := hC.2.2.2.1
  unfold fX3_lay fX4_lay
  simp only [tl_be, re_fX, tl_be2]
  rcases re_sh a with ⟨s1, s2⟩ | ⟨s, hs, rfl, s1, s2⟩
  · exact ⟨-2, σ, σ, by rw [s1, if_pos rfl], by rw [s2, if_pos rfl], HR⟩
  · simp only [s1, s2, if_neg re_10]
    rcases re_fm b with ⟨f1, f2⟩ | ⟨fb, hfb, rfl, f1, f2⟩
    · exact ⟨-2, σ, σ, by rw [f1, if_pos rfl], by rw [f2, if_pos rfl], HR⟩
    · have hin : tl_in (nI s) 4 := sp_in (by omega) (by decide)
      have hcl : (nI s).toNatClampNeg = s := sp_cl (by omega)
      simp only [f1, f2, if_neg re_10, if_pos hin, hcl]
      obtain ⟨z, hz⟩ := Hs s hs
      have hz60 := hz.1
      rcases re_fault hs hz (nI fb) i with ⟨k0, ⟨f, j, hf, ef, e1, e2, hj, rfl⟩, kM⟩ | ⟨k, hk, k0, kM⟩
      · have hff : fb = f := (nI_eq (by omega) (by omega)).mp ef
        subst hff
        have e37 : 60 * nI s + nI j = nI (60 * s + j) := by rw [show (60 : Int32) = nI 60 from rfl, pk_mul, nI_add]
        have hin2 : tl_in (nI (60 * s + j)) 240 := sp_in (by omega) (by decide)
        have hcl2 : (nI (60 * s + j)).toNatClampNeg = 60 * s + j := sp_cl (by omega)
        refine ⟨1, tl_set σ (25 + 2 * s + 1) j (re_cut fb v), tl_set (tl_set σ (25 + 2 * s + 1) j (re_cut fb v)) 37 (60 * s + j) (re_cut fb v), ?_, ?_, c, he, fl, N, h, u, t, C, H.1.cg ?_ ?_ ?_ ?_ ?_, Hl.cg ?_ ?_ ?_ ?_, Hb.cg ?_ ?_ ?_ ?_ ?_, re_s_upd hs Hs ?_ ?_ ?_ ?_ ⟨z, hz.1, ?_, ?_, ?_, fun i hi => ?_⟩⟩
        · rw [k0, if_pos rfl, re_put hf e1 (by omega), tl_oe]
        · rw [kM _ (by rw [sp_n (by omega)]) (by rw [sp_n (by omega)]), tl_oe2, if_pos rfl]
          simp only [re_cutM hf, e37, if_pos hin2, hcl2]
        all_goals first | (intros; (repeat (first | rfl | rw [sp_n (by omega)] | rw [sp_sn (by omega)])); done) | skip
        · rw [sp_n (by omega), sp_n (by omega)]; exact hz.2.1
        · rw [sp_n (by omega), sp_n (by omega)]; exact hz.2.2.1
        · rw [sp_n (d := 25 + 2 * s) (by omega), sp_n (d := 25 + 2 * s) (by omega), sp_n (d := 35) (by omega), sp_n (d := 35) (by omega)]; exact hz.2.2.2.1
        · rw [sp_n (by omega)]
          by_cases hij : i = j
          · subst hij; rw [sp_ss, sp_ss]
          · rw [sp_sn hij, sp_sn (by omega), sp_n (by omega)]; exact hz.2.2.2.2 i hi
      · refine ⟨-10 - k, tl_set σ 0 12 k, tl_set (tl_set σ 0 12 k) 34 4 k, ?_, ?_, re_find HR k⟩
        · rw [k0, if_neg (re_nf hk).1]
        · rw [kM _ (by rw [sp_n (by omega)]) (by rw [sp_n (by omega)]), tl_oe2, if_neg (re_nf hk).2]
theorem re_get {σ : tl_St} (H : re_R σ) (a b i : Int32) : ∃ r σ1 σ2, fX3_get σ a b i = some (r, σ1) ∧ fX4_get σ1 a b i = some (r, σ2) ∧ re_R σ2 := by
  obtain ⟨c, he, fl, N, h, u, t, C, H⟩ := H
  obtain ⟨⟨hC, hH, hu, hcu, hX, hXf, hM, hMf⟩, Hl, Hb, Hs⟩ := id H
  have HR : re_R σ := ⟨c, he, fl, N, h, u, t, C, H⟩
  have hN := hC.2.2.2.1
  unfold fX3_get fX4_get
  simp only [tl_be, re_fX, tl_be2]
  rcases re_sh a with ⟨s1, s2⟩ | ⟨s, hs, rfl, s1, s2⟩
  · exact ⟨-2147483648, σ, σ, by rw [s1, if_pos rfl], by rw [s2, if_pos rfl], HR⟩
  · simp only [s1, s2, if_neg re_10]
    rcases re_fm b with ⟨f1, f2⟩ | ⟨fb, hfb, rfl, f1, f2⟩
    · exact ⟨-2147483648, σ, σ, by rw [f1, if_pos rfl], by rw [f2, if_pos rfl], HR⟩
    · have hin : tl_in (nI s) 4 := sp_in (by omega) (by decide)
      have hcl : (nI s).toNatClampNeg = s := sp_cl (by omega)
      simp only [f1, f2, if_neg re_10, if_pos hin, hcl]
      obtain ⟨z, hz⟩ := Hs s hs
      have hz60 := hz.1
      rcases re_fault hs hz (nI fb) i with ⟨k0, ⟨f, j, hf, ef, e1, e2, hj, rfl⟩, kM⟩ | ⟨k, hk, k0, kM⟩
      · have e37 : 60 * nI s + nI j = nI (60 * s + j) := by rw [show (60 : Int32) = nI 60 from rfl, pk_mul, nI_add]
        have hin2 : tl_in (nI (60 * s + j)) 240 := sp_in (by omega) (by decide)
        have hcl2 : (nI (60 * s + j)).toNatClampNeg = 60 * s + j := sp_cl (by omega)
        have hin3 : tl_in (nI j) 60 := sp_in (by omega) (by decide)
        have hcl3 : (nI j).toNatClampNeg = j := sp_cl (by omega)
        refine ⟨σ (25 + 2 * s + 1) j, σ, σ, ?_, ?_, HR⟩
        · simp only [k0, if_true, if_pos hin3, hcl3]
        · rw [kM σ rfl rfl, tl_oe2, if_pos rfl]
          simp only [e37, if_pos hin2, hcl2]
          rw [hz.2.2.2.2 j hj]
      · refine ⟨-2147483648, tl_set σ 0 12 k, tl_set (tl_set σ 0 12 k) 34 4 k, ?_, ?_, re_find HR k⟩
        · rw [k0, if_neg (re_nf hk).1]
        · rw [kM _ (by rw [sp_n (by omega)]) (by rw [sp_n (by omega)]), tl_oe2, if_neg (re_nf hk).2]
theorem re_wr_XL {s f M : Nat} {st : Nat → Int32} (hs : s < 4) (hf : f < 3) (hM : M ≤ 60) (σ0 : tl_St) (e : σ0 (25 + 2 * s) 1 = nI f) (hst : ∀ j, j < M → σ0 (10 + 7) j = st j) (k : tl_St → Option (Int32 × tl_St)) : ∀ (n i : Nat) (σ : tl_St), i ≤ M → M - i < n → (∀ j, j < i → σ (25 + 2 * s + 1) j = re_cut f (st j)) → (∀ j, i ≤ j → σ (25 + 2 * s + 1) j = σ0 (25 + 2 * s + 1) j) → (∀ d, d ≠ 25 + 2 * s + 1 → σ d = σ0 d) → ∃ σ', fX3_write_L52 (25 + 2 * s) (nI M) k n σ (nI i) = k σ' ∧ (∀ j, j < M → σ' (25 + 2 * s + 1) j = re_cut f (st j)) ∧ (∀ j, M ≤ j → σ' (25 + 2 * s + 1) j = σ0 (25 + 2 * s + 1) j) ∧ (∀ d, d ≠ 25 + 2 * s + 1 → σ' d = σ0 d) := by
  intro n
  induction n with
  | zero => intro i σ h1 h2; omega
  | succ n ih =>
    intro i σ h1 h2 h3 h4 h5
    rw [fX3_write_L52]
    by_cases hi : i = M
    · subst hi
      rw [if_pos ((sp_le (by omega) (by omega)).mpr (Nat.le_refl _))]
      exact ⟨σ, rfl, h3, h4, h5⟩
    · have hin : tl_in (nI i) 60 := sp_in (by omega) (by decide)
      have hcl : (nI i).toNatClampNeg = i := sp_cl (by omega)
      rw [if_neg (fun q => absurd ((sp_le (by omega) (by omega)).mp q) (by omega))]
      simp only [if_pos hin, hcl, re_put hf (show σ (25 + 2 * s) 1 = nI f by rw [h5 _ (by omega)]; exact e) (show i < 60 by omega), tl_oe, tl_be]
      rw [← nI_succ]
      refine ih (i + 1) _ (by omega) (by omega) (fun j hj => ?_) (fun j hj => ?_) (fun d hd => ?_)
      · by_cases hji : j = i
        · subst hji; rw [sp_ss, h5 (10 + 7) (by omega), hst j (by omega)]
        · rw [sp_sn hji]; exact h3 j (by omega)
      · rw [sp_sn (by omega)]; exact h4 j (by omega)
      · rw [sp_n hd]; exact h5 d hd
theorem re_wr_ML {s f M : Nat} {st : Nat → Int32} (hs : s < 4) (hf : f < 3) (hM : M ≤ 60) (σ0 : tl_St) (e : σ0 35 s = nI f) (hst : ∀ j, j < M → σ0 46 j = st j) (k : tl_St → Option (Int32 × tl_St)) : ∀ (n i : Nat) (σ : tl_St), i ≤ M → M - i < n → (∀ j, j < i → σ 37 (60 * s + j) = re_cut f (st j)) → (∀ j, j < 60 * s ∨ 60 * s + i ≤ j → σ 37 j = σ0 37 j) → (∀ d, d ≠ 37 → σ d = σ0 d) → ∃ σ', fX4_write_L45 (nI s) (nI M) k n σ (nI i) = k σ' ∧ (∀ j, j < M → σ' 37 (60 * s + j) = re_cut f (st j)) ∧ (∀ j, j < 60 * s ∨ 60 * s + M ≤ j → σ' 37 j = σ0 37 j) ∧ (∀ d, d ≠ 37 → σ' d = σ0 d) := by
  have his : tl_in (nI s) 4 := sp_in (by omega) (by decide)
  have hcs : (nI s).toNatClampNeg = s := sp_cl (by omega)
  intro n
  induction n with
  | zero => intro i σ h1 h2; omega
  | succ n ih =>
    intro i σ h1 h2 h3 h4 h5
    rw [fX4_write_L45]
    by_cases hi : i = M
    · subst hi
      rw [if_pos ((sp_le (by omega) (by omega)).mpr (Nat.le_refl _))]
      exact ⟨σ, rfl, h3, h4, h5⟩
    · have hin : tl_in (nI i) 60 := sp_in (by omega) (by decide)
      have hcl : (nI i).toNatClampNeg = i := sp_cl (by omega)
      have e37 : 60 * nI s + nI i = nI (60 * s + i) := by rw [show (60 : Int32) = nI 60 from rfl, pk_mul, nI_add]
      have hin2 : tl_in (nI (60 * s + i)) 240 := sp_in (by omega) (by decide)
      have hcl2 : (nI (60 * s + i)).toNatClampNeg = 60 * s + i := sp_cl (by omega)
      rw [if_neg (fun q => absurd ((sp_le (by omega) (by omega)).mp q) (by omega))]
      simp only [if_pos his, hcs, if_pos hin, hcl, e37, if_pos hin2, hcl2, h5 35 (by decide), e, re_cutM hf, h5 46 (by decide), hst i (show i < M by omega), tl_be]
      rw [← nI_succ]
      refine ih (i + 1) _ (by omega) (by omega) (fun j hj => ?_) (fun j hj => ?_) (fun d hd => ?_)
      · by_cases hji : j = i
        · subst hji; exact sp_ss
        · rw [sp_sn (by omega)]; exact h3 j (by omega)
      · rw [sp_sn (by omega)]; exact h4 j (by omega)
      · rw [sp_n hd]; exact h5 d hd
theorem re_write {σ : tl_St} (H : re_R σ) (a : Int32) : ∃ r σ1 σ2, fX3_write σ a = some (r, σ1) ∧ fX4_write σ1 a = some (r, σ2) ∧ re_R σ2 := by
  obtain ⟨c, he, fl, N, h, u, t, C, H⟩ := H
  obtain ⟨⟨hC, hH, hu, hcu, hX, hXf, hM, hMf⟩, Hl, Hb, Hs⟩ := id H
  have HR : re_R σ := ⟨c, he, fl, N, h, u, t, C, H⟩
  have hN := hC.2.2.2.1
  have h60 := hC.2.2.1
  unfold fX3_write fX4_write
  simp only [tl_be, re_fX, re_fM, tl_be2]
  rcases re_sh a with ⟨s1, s2⟩ | ⟨s, hs, rfl, s1, s2⟩
  · exact ⟨-2, σ, σ, by rw [s1, if_pos rfl], by rw [s2, if_pos rfl], HR⟩
  · have hin : tl_in (nI s) 4 := sp_in (by omega) (by decide)
    have hcl : (nI s).toNatClampNeg = s := sp_cl (by omega)
    simp only [s1, s2, if_neg re_10, if_pos hin, hcl]
    obtain ⟨z, hz⟩ := Hs s hs
    have hz60 := hz.1
    rcases re_lostX hz with ⟨q1, q2, f, hf, e1, e2⟩ | ⟨q1, q2⟩
    · obtain ⟨σ6, z6, x1, x2⟩ := re_tryTurn hC hH hX hXf
      have emin : ∀ x y : Int32, x = nI z → y = nI h → (if y < x then y else x) = nI (min z h) := by
        intro x y ex ey
        rw [sp_min', ex, ey, sp_min_nI (by omega) (by omega)]
      obtain ⟨σ1, z1, w1, w2, w3⟩ := re_wr_XL (s := s) (f := f) (M := min z h) (st := sp_st c fl N he) hs hf (by omega) σ6 (by rw [x1 _ (by omega)]; exact e1) (fun j hj => x2 j (by omega)) (fun σ8 => some (nI (min z h), σ8)) 1000 0 σ6 (by omega) (by omega) (fun j hj => absurd hj (by omega)) (fun _ _ => rfl) (fun _ _ => rfl)
      rw [nI_0] at z1
      have gx : ∀ d, (d < 10 ∨ 18 < d) → d ≠ 25 + 2 * s + 1 → σ1 d = σ d := fun d q1 q2 => by rw [w3 d q2, x1 d q1]
      obtain ⟨σ5, z5, k5, k6⟩ := sp_looks (σ := σ1) (fl := fl) hC hH (hM.cg (fun d p1 p2 => gx d (by omega) (by omega))) (by rw [gx 34 (by omega) (by omega)]; exact hMf)
      have g5 : ∀ d, d ≠ 34 → d ≠ 43 → d ≠ 46 → d ≠ 47 → d ≠ 48 → σ5 d = σ1 d := k5.1
      obtain ⟨σ2, z2, v1, v2, v3⟩ := re_wr_ML (s := s) (f := f) (M := min z h) (st := sp_st c fl N he) hs hf (by omega) σ5 (by rw [g5 35 (by decide) (by decide) (by decide) (by decide) (by decide), gx 35 (by omega) (by omega)]; exact e2) (fun j hj => k6 j (by omega)) (fun σ8 => some (nI (min z h), σ8)) 1000 0 σ5 (by omega) (by omega) (fun j hj => absurd hj (by omega)) (fun _ _ => rfl) (fun _ _ => rfl)
      rw [nI_0] at z2
      have gm : ∀ d, d < 34 ∨ (34 < d ∧ d < 37) ∨ (37 < d ∧ d < 43) ∨ d = 44 ∨ d = 45 ∨ d = 49 → σ2 d = σ1 d := fun d hd => by
        rw [v3 d (by omega), g5 d (by omega) (by omega) (by omega) (by omega) (by omega)]
      have gk : ∀ k, k ≠ 20 → k ≠ 21 → k ≠ 23 → σ2 34 k = σ 34 k := fun k p1 p2 p3 => by
        rw [v3 34 (by decide), k5.2.2 k p1 p2 p3, gx 34 (by omega) (by omega)]
      refine ⟨nI (min z h), σ1, σ2, ?_, ?_, c, he, fl, N, h, u, t, C, H.1.cg ?_ ?_ ?_ ?_ ?_, Hl.cg ?_ ?_ ?_ ?_, Hb.cg ?_ ?_ ?_ ?_ ?_, re_s_upd hs Hs ?_ ?_ ?_ ?_ ⟨z, hz.1, ?_, ?_, ?_, fun i hi => ?_⟩⟩
      · rw [if_pos q1, z6, tl_oe, emin (σ6 (25 + 2 * s) 2) (σ6 1 0) (by rw [x1 _ (by omega)]; exact hz.2.1) (by rw [x1 1 (by omega), hX.1, hC.1])]
        exact z1
      · rw [gx 35 (by omega) (by omega), if_pos q2, z5, tl_oe]
        have : fX4_lesser σ5 (σ5 36 s) (σ5 34 5) = nI (min z h) := by
          have e36 : σ5 36 s = nI z := by rw [g5 36 (by decide) (by decide) (by decide) (by decide) (by decide), gx 36 (by omega) (by omega)]; exact hz.2.2.1
          have e5 : σ5 34 5 = nI h := by rw [k5.2.2 5 (by decide) (by decide) (by decide), gx 34 (by omega) (by omega), hM.1, hC.1]
          rw [e36, e5, ← sp_min_nI (by omega) (by omega)]
          rfl
        rw [this]
        exact z2
      · intro k _; rw [gm 1 (by omega), gx 1 (by omega) (by omega)]
      · intro d _ _; rw [gm d (by omega), gx d (by omega) (by omega)]
      · intro k hk; exact gk k (by omega) (by omega) (by omega)
      · intro d _ _; rw [gm d (by omega), gx d (by omega) (by omega)]
      · intro i hi; rw [v3 43 (by decide), k5.2.1 i hi, gx 43 (by omega) (by omega)]
      · intro k _; rw [gm 0 (by omega), gx 0 (by omega) (by omega)]
      · rw [gm 33 (by omega), gx 33 (by omega) (by omega)]
      · intro k hk; exact gk k (by omega) (by omega) (by omega)
      · rw [gm 49 (by omega), gx 49 (by omega) (by omega)]
      · rw [gm 0 (by omega), gx 0 (by omega) (by omega)]
      · intro d _ _; rw [gm d (by omega), gx d (by omega) (by omega)]
      · exact gk 14 (by omega) (by omega) (by omega)
      · rw [gm 44 (by omega), gx 44 (by omega) (by omega)]
      · rw [gm 45 (by omega), gx 45 (by omega) (by omega)]
      · intro d _ _ p1 p2; rw [gm d (by omega), gx d (by omega) p2]
      · intro k _; rw [gm 35 (by omega), gx 35 (by omega) (by omega)]
      · intro k _; rw [gm 36 (by omega), gx 36 (by omega) (by omega)]
      · intro j hj; rw [v2 j (by omega), g5 37 (by decide) (by decide) (by decide) (by decide) (by decide), gx 37 (by omega) (by omega)]
      · rw [gm _ (by omega), gx _ (by omega) (by omega)]; exact hz.2.1
      · rw [gm 36 (by omega), gx 36 (by omega) (by omega)]; exact hz.2.2.1
      · rw [gm (25 + 2 * s) (by omega), gx (25 + 2 * s) (by omega) (by omega), gm 35 (by omega), gx 35 (by omega) (by omega)]; exact hz.2.2.2.1
      · rw [gm _ (by omega)]
        by_cases hiM : i < min z h
        · rw [w1 i hiM, v1 i hiM]
        · rw [w2 i (by omega), v2 _ (by omega), x1 _ (by omega), g5 37 (by decide) (by decide) (by decide) (by decide) (by decide), gx 37 (by omega) (by omega)]; exact hz.2.2.2.2 i hi
    · refine ⟨-10 - 1, tl_set σ 0 12 1, tl_set (tl_set σ 0 12 1) 34 4 1, ?_, ?_, re_find HR 1⟩
      · rw [if_neg q1]
      · rw [sp_n (by decide), if_neg q2]

