/-! copy -/
theorem re_subneg {z p : Nat} (hz : z ≤ 60) (hp : p < 2 ^ 31) (h : z < p) : nI z - nI p < 0 := by
  rw [Int32.lt_iff_toInt_lt, Int32.toInt_sub, nI_toInt (by omega), nI_toInt hp]
  have e0 : (0 : Int32).toInt = 0 := by decide
  rw [e0, Int.bmod_eq_of_le (by omega) (by omega)]
  omega
theorem re_span {σ : tl_St} {o z : Nat} (hz : z ≤ 60) (e : σ o 2 = nI z) (i n : Int32) : (fX1_hasSpan σ o i n = 1 ∧ ∃ p q, i = nI p ∧ n = nI q ∧ p + q ≤ z) ∨ (fX1_hasSpan σ o i n = 0 ∧ (i < 0 ∨ n < 0 ∨ ∃ p q, p < 2 ^ 31 ∧ q < 2 ^ 31 ∧ i = nI p ∧ n = nI q ∧ z < p + q)) := by
  unfold fX1_hasSpan
  simp only [tl_be, e]
  by_cases h1 : i < 0
  · exact Or.inr ⟨by rw [if_pos h1], Or.inl h1⟩
  · rw [if_neg h1]
    by_cases h2 : n < 0
    · exact Or.inr ⟨by rw [if_pos h2], Or.inr (Or.inl h2)⟩
    · rw [if_neg h2]
      obtain ⟨p, hp, rfl⟩ := nI_of h1
      obtain ⟨q, hq, rfl⟩ := nI_of h2
      by_cases hpz : p ≤ z
      · rw [pk_sub hpz]
        by_cases h3 : z - p < q
        · exact Or.inr ⟨by rw [if_pos ((sp_lt (by omega) (by omega)).mpr h3)], Or.inr (Or.inr ⟨p, q, hp, hq, rfl, rfl, by omega⟩)⟩
        · exact Or.inl ⟨by rw [if_neg (fun w => h3 ((sp_lt (by omega) (by omega)).mp w))], p, q, rfl, rfl, by omega⟩
      · have h3 : nI z - nI p < nI q := Int32.lt_of_lt_of_le (re_subneg hz hp (by omega)) (nI_pos' hq)
        exact Or.inr ⟨by rw [if_pos h3], Or.inr (Or.inr ⟨p, q, hp, hq, rfl, rfl, by omega⟩)⟩
theorem re_long {p q z : Nat} (hp : p < 2 ^ 31) (hq : q < 2 ^ 31) (hz : z < 2 ^ 31) : 0 < lg_cmp ((nI p).toInt64 + (nI q).toInt64) (nI z).toInt64 ↔ z < p + q := by
  rw [re_cgt, nI_l hp, nI_l hq, nI_l hz, lN_add, pk_lLT (by omega) (by omega)]
theorem re_cp_ML1 {s p q : Nat} (hs : s < 4) (hpq : p + q ≤ 60) (σ0 : tl_St) (k : tl_St → Option (Int32 × tl_St)) : ∀ (n i : Nat) (σ : tl_St), i ≤ q → q - i < n → (∀ j, j < i → σ 38 j = σ0 37 (60 * s + p + j)) → (∀ d, d ≠ 38 → σ d = σ0 d) → ∃ σ', fX4_copy_L120 (nI s) (nI p) (nI q) k n σ (nI i) = k σ' ∧ (∀ j, j < q → σ' 38 j = σ0 37 (60 * s + p + j)) ∧ (∀ d, d ≠ 38 → σ' d = σ0 d) := by
  intro n
  induction n with
  | zero => intro i σ h1 h2; omega
  | succ n ih =>
    intro i σ h1 h2 h3 h5
    rw [fX4_copy_L120]
    by_cases hi : i = q
    · subst hi
      rw [if_pos ((sp_le (by omega) (by omega)).mpr (Nat.le_refl _))]
      exact ⟨σ, rfl, h3, h5⟩
    · have e37 : 60 * nI s + nI p + nI i = nI (60 * s + p + i) := by rw [show (60 : Int32) = nI 60 from rfl, pk_mul, nI_add, nI_add]
      have hin2 : tl_in (nI (60 * s + p + i)) 240 := sp_in (by omega) (by decide)
      have hcl2 : (nI (60 * s + p + i)).toNatClampNeg = 60 * s + p + i := sp_cl (by omega)
      have hin : tl_in (nI i) 60 := sp_in (by omega) (by decide)
      have hcl : (nI i).toNatClampNeg = i := sp_cl (by omega)
      rw [if_neg (fun q => absurd ((sp_le (by omega) (by omega)).mp q) (by omega))]
      simp only [if_pos hin, hcl, e37, if_pos hin2, hcl2, tl_be]
      rw [← nI_succ]
      refine ih (i + 1) _ (by omega) (by omega) (fun j hj => ?_) (fun d hd => ?_)
      · by_cases hji : j = i
        · subst hji; rw [sp_ss, h5 37 (by decide)]
        · rw [sp_sn hji]; exact h3 j (by omega)
      · rw [sp_n hd]; exact h5 d hd
theorem re_cp_ML2 {s r q : Nat} (hs : s < 4) (hrq : r + q ≤ 60) (σ0 : tl_St) (k : tl_St → Option (Int32 × tl_St)) : ∀ (n i : Nat) (σ : tl_St), i ≤ q → q - i < n → (∀ j, j < i → σ 37 (60 * s + r + j) = σ0 38 j) → (∀ j, j < 60 * s + r ∨ 60 * s + r + i ≤ j → σ 37 j = σ0 37 j) → (∀ d, d ≠ 37 → σ d = σ0 d) → ∃ σ', fX4_copy_L157 (nI s) (nI r) (nI q) k n σ (nI i) = k σ' ∧ (∀ j, j < q → σ' 37 (60 * s + r + j) = σ0 38 j) ∧ (∀ j, j < 60 * s + r ∨ 60 * s + r + q ≤ j → σ' 37 j = σ0 37 j) ∧ (∀ d, d ≠ 37 → σ' d = σ0 d) := by
  intro n
  induction n with
  | zero => intro i σ h1 h2; omega
  | succ n ih =>
    intro i σ h1 h2 h3 h4 h5
    rw [fX4_copy_L157]
    by_cases hi : i = q
    · subst hi
      rw [if_pos ((sp_le (by omega) (by omega)).mpr (Nat.le_refl _))]
      exact ⟨σ, rfl, h3, h4, h5⟩
    · have e37 : 60 * nI s + nI r + nI i = nI (60 * s + r + i) := by rw [show (60 : Int32) = nI 60 from rfl, pk_mul, nI_add, nI_add]
      have hin2 : tl_in (nI (60 * s + r + i)) 240 := sp_in (by omega) (by decide)
      have hcl2 : (nI (60 * s + r + i)).toNatClampNeg = 60 * s + r + i := sp_cl (by omega)
      have hin : tl_in (nI i) 60 := sp_in (by omega) (by decide)
      have hcl : (nI i).toNatClampNeg = i := sp_cl (by omega)
      rw [if_neg (fun q => absurd ((sp_le (by omega) (by omega)).mp q) (by omega))]
      simp only [if_pos hin, hcl, e37, if_pos hin2, hcl2, tl_be]
      rw [← nI_succ]
      refine ih (i + 1) _ (by omega) (by omega) (fun j hj => ?_) (fun j hj => ?_) (fun d hd => ?_)
      · by_cases hji : j = i
        · subst hji; rw [sp_ss, h5 38 (by decide)]
        · rw [sp_sn (by omega)]; exact h3 j (by omega)
      · rw [sp_sn (by omega)]; exact h4 j (by omega)
      · rw [sp_n hd]; exact h5 d hd
theorem re_copy {σ : tl_St} (H : re_R σ) (a i b j n : Int32) : ∃ r σ1 σ2, fX3_copy σ a i b j n = some (r, σ1) ∧ fX4_copy σ1 a i b j n = some (r, σ2) ∧ re_R σ2 := by
  obtain ⟨c, he, fl, N, h, u, t, C, H⟩ := H
  obtain ⟨⟨hC, hH, hu, hcu, hX, hXf, hM, hMf⟩, Hl, Hb, Hs⟩ := id H
  have HR : re_R σ := ⟨c, he, fl, N, h, u, t, C, H⟩
  have hN := hC.2.2.2.1
  unfold fX3_copy fX4_copy
  simp only [tl_be, re_fX, re_fM, tl_be2]
  rcases re_sh a with ⟨s1, s2⟩ | ⟨s, hs, rfl, s1, s2⟩
  · exact ⟨-2, σ, σ, by rw [s1, if_pos rfl], by rw [s2, if_pos rfl], HR⟩
  · simp only [s1, s2, if_neg re_10]
    rcases re_sh b with ⟨t1, t2⟩ | ⟨v, hv, rfl, t1, t2⟩
    · exact ⟨-2, σ, σ, by rw [t1, if_pos rfl], by rw [t2, if_pos rfl], HR⟩
    · have hins : tl_in (nI s) 4 := sp_in (by omega) (by decide)
      have hcls : (nI s).toNatClampNeg = s := sp_cl (by omega)
      have hinv : tl_in (nI v) 4 := sp_in (by omega) (by decide)
      have hclv : (nI v).toNatClampNeg = v := sp_cl (by omega)
      simp only [t1, t2, if_neg re_10, if_pos hins, hcls, if_pos hinv, hclv]
      obtain ⟨z, hz⟩ := Hs s hs
      obtain ⟨y, hy⟩ := Hs v hv
      have hz60 := hz.1
      have hy60 := hy.1
      have hnull : ∃ (r : Int32) (σ1 σ2 : tl_St), some (-10 - 1, tl_set σ 0 12 1) = some (r, σ1) ∧ some (-10 - 1, tl_set σ1 34 4 1) = some (r, σ2) ∧ re_R σ2 := ⟨-10 - 1, tl_set σ 0 12 1, tl_set (tl_set σ 0 12 1) 34 4 1, rfl, rfl, re_find HR 1⟩
      rcases re_lostX hz with ⟨q1, q2, f, hf, e1, e2⟩ | ⟨q1, q2⟩
      · have q2' : ¬ σ 35 s < 0 := Int32.not_lt.mpr q2
        rcases re_lostX hy with ⟨q3, q4, g, hg, e3, e4⟩ | ⟨q3, q4⟩
        · simp only [if_pos q1, if_pos q3, e1, e3]
          by_cases hfg : f = g
          · subst hfg
            have hM0 : ∀ σ1 : tl_St, (∀ d, 33 < d → σ1 d = σ d) → (if σ1 35 s < 0 then some (-10 - 1, tl_set σ1 34 4 1) else if 0 ≤ σ1 35 v then if σ1 35 s = σ1 35 v then if i < 0 then some (-10 - 2, tl_set σ1 34 4 2) else if j < 0 then some (-10 - 2, tl_set σ1 34 4 2) else if n < 0 then some (-10 - 2, tl_set σ1 34 4 2) else if 0 < lg_cmp (i.toInt64 + n.toInt64) (σ1 36 s).toInt64 then some (-10 - 2, tl_set σ1 34 4 2) else if lg_cmp (j.toInt64 + n.toInt64) (σ1 36 v).toInt64 ≤ 0 then fX4_copy_L120 (nI s) i n (fun σ25 => fX4_copy_L157 (nI v) j n (fun σ27 => some (1, σ27)) 1000 σ25 0) 1000 σ1 0 else some (-10 - 2, tl_set σ1 34 4 2) else some (-10 - 4, tl_set σ1 34 4 4) else some (-10 - 1, tl_set σ1 34 4 1)) = (if i < 0 then some (-10 - 2, tl_set σ1 34 4 2) else if j < 0 then some (-10 - 2, tl_set σ1 34 4 2) else if n < 0 then some (-10 - 2, tl_set σ1 34 4 2) else if 0 < lg_cmp (i.toInt64 + n.toInt64) (nI z).toInt64 then some (-10 - 2, tl_set σ1 34 4 2) else if lg_cmp (j.toInt64 + n.toInt64) (nI y).toInt64 ≤ 0 then fX4_copy_L120 (nI s) i n (fun σ25 => fX4_copy_L157 (nI v) j n (fun σ27 => some (1, σ27)) 1000 σ25 0) 1000 σ1 0 else some (-10 - 2, tl_set σ1 34 4 2)) := by
              intro σ1 gg
              rw [gg 35 (by omega), gg 36 (by omega), if_neg q2', if_pos q4, if_pos (by rw [e2, e4]), hz.2.2.1, hy.2.2.1]
            have hidx : ∀ σ1 : tl_St, (i < 0 ∨ j < 0 ∨ n < 0 ∨ (∃ p q, p < 2 ^ 31 ∧ q < 2 ^ 31 ∧ i = nI p ∧ n = nI q ∧ z < p + q) ∨ (∃ p q, p < 2 ^ 31 ∧ q < 2 ^ 31 ∧ j = nI p ∧ n = nI q ∧ y < p + q)) → (if i < 0 then some (-10 - 2, tl_set σ1 34 4 2) else if j < 0 then some (-10 - 2, tl_set σ1 34 4 2) else if n < 0 then some (-10 - 2, tl_set σ1 34 4 2) else if 0 < lg_cmp (i.toInt64 + n.toInt64) (nI z).toInt64 then some (-10 - 2, tl_set σ1 34 4 2) else if lg_cmp (j.toInt64 + n.toInt64) (nI y).toInt64 ≤ 0 then fX4_copy_L120 (nI s) i n (fun σ25 => fX4_copy_L157 (nI v) j n (fun σ27 => some (1, σ27)) 1000 σ25 0) 1000 σ1 0 else some (-10 - 2, tl_set σ1 34 4 2)) = some (-10 - 2, tl_set σ1 34 4 2) := by
              intro σ1 hx
              by_cases c1 : i < 0
              · rw [if_pos c1]
              · rw [if_neg c1]
                by_cases c2 : j < 0
                · rw [if_pos c2]
                · rw [if_neg c2]
                  by_cases c3 : n < 0
                  · rw [if_pos c3]
                  · rw [if_neg c3]
                    rcases hx with hx | hx | hx | ⟨p, q, hp, hq, rfl, rfl, hx⟩ | ⟨p, q, hp, hq, rfl, rfl, hx⟩
                    · exact absurd hx c1
                    · exact absurd hx c2
                    · exact absurd hx c3
                    · rw [if_pos ((re_long hp hq (by omega)).mpr hx)]
                    · by_cases c4 : 0 < lg_cmp (i.toInt64 + (nI q).toInt64) (nI z).toInt64
                      · rw [if_pos c4]
                      · rw [if_neg c4, if_neg (Int32.not_le.mpr ((re_long hp hq (by omega)).mpr hx))]
            have hfail : (i < 0 ∨ j < 0 ∨ n < 0 ∨ (∃ p q, p < 2 ^ 31 ∧ q < 2 ^ 31 ∧ i = nI p ∧ n = nI q ∧ z < p + q) ∨ (∃ p q, p < 2 ^ 31 ∧ q < 2 ^ 31 ∧ j = nI p ∧ n = nI q ∧ y < p + q)) → fX1_hasSpan σ (25 + 2 * s) i n = 0 ∨ fX1_hasSpan σ (25 + 2 * v) j n = 0 → ∃ r σ1 σ2, some (-10 - 2, tl_set σ 0 12 2) = some (r, σ1) ∧ (if i < 0 then some (-10 - 2, tl_set σ1 34 4 2) else if j < 0 then some (-10 - 2, tl_set σ1 34 4 2) else if n < 0 then some (-10 - 2, tl_set σ1 34 4 2) else if 0 < lg_cmp (i.toInt64 + n.toInt64) (nI z).toInt64 then some (-10 - 2, tl_set σ1 34 4 2) else if lg_cmp (j.toInt64 + n.toInt64) (nI y).toInt64 ≤ 0 then fX4_copy_L120 (nI s) i n (fun σ25 => fX4_copy_L157 (nI v) j n (fun σ27 => some (1, σ27)) 1000 σ25 0) 1000 σ1 0 else some (-10 - 2, tl_set σ1 34 4 2)) = some (r, σ2) ∧ re_R σ2 := by
              intro hx _
              exact ⟨-10 - 2, tl_set σ 0 12 2, _, rfl, hidx _ hx, re_find HR 2⟩
            rcases re_span hz60 hz.2.1 i n with ⟨w1, p, q, rfl, rfl, hpq⟩ | ⟨w1, hx⟩
            · simp only [w1, if_neg re_10, if_true]
              rcases re_span hy60 hy.2.1 j (nI q) with ⟨w2, r, q', rfl, eq, hrq⟩ | ⟨w2, hx⟩
              · have hq : q' = q := by
                  by_cases hq31 : q' < 2 ^ 31
                  · exact ((nI_eq (by omega) hq31).mp eq).symm
                  · omega
                subst hq
                have hcok : tl_cok (nI p) (nI r) (nI q') 60 60 := by
                  refine ⟨nI_pos (by omega), nI_pos (by omega), nI_pos (by omega), ?_, ?_⟩
                  · rw [sp_cl (by omega), sp_cl (by omega)]; omega
                  · rw [sp_cl (by omega), sp_cl (by omega)]; omega
                have cp : (nI p).toNatClampNeg = p := sp_cl (by omega)
                have cr : (nI r).toNatClampNeg = r := sp_cl (by omega)
                have cq : (nI q').toNatClampNeg = q' := sp_cl (by omega)
                simp only [w2, if_neg re_10, if_pos hcok, cp, cr, cq]
                obtain ⟨σ1, eσ1⟩ : ∃ x, x = tl_setC σ (25 + 2 * v + 1) (va_cpy (σ (25 + 2 * s + 1)) (σ (25 + 2 * v + 1)) p r q') := ⟨_, rfl⟩
                have gx : ∀ d, d ≠ 25 + 2 * v + 1 → σ1 d = σ d := fun d hd => by rw [eσ1]; exact sp_cn hd
                obtain ⟨σ5, z5, m1, m2⟩ := re_cp_ML1 (s := s) (p := p) (q := q') hs (by omega) σ1 (fun σ25 => fX4_copy_L157 (nI v) (nI r) (nI q') (fun σ27 => some (1, σ27)) 1000 σ25 0) 1000 0 σ1 (by omega) (by omega) (fun j hj => absurd hj (by omega)) (fun _ _ => rfl)
                rw [nI_0] at z5
                obtain ⟨σ2, z2, k1, k2, k3⟩ := re_cp_ML2 (s := v) (r := r) (q := q') hv (by omega) σ5 (fun σ27 => some (1, σ27)) 1000 0 σ5 (by omega) (by omega) (fun j hj => absurd hj (by omega)) (fun _ _ => rfl) (fun _ _ => rfl)
                rw [nI_0] at z2
                have gm : ∀ d, d ≠ 37 → d ≠ 38 → σ2 d = σ1 d := fun d h1 h2 => by rw [k3 d h1, m2 d h2]
                refine ⟨1, σ1, σ2, by rw [eσ1], ?_, c, he, fl, N, h, u, t, C, H.1.cg ?_ ?_ ?_ ?_ ?_, Hl.cg ?_ ?_ ?_ ?_, Hb.cg ?_ ?_ ?_ ?_ ?_, re_s_upd hv Hs ?_ ?_ ?_ ?_ ⟨y, hy.1, ?_, ?_, ?_, fun i hi => ?_⟩⟩
                · rw [hM0 σ1 (fun d hd => gx d (by omega)), if_neg (nI_pos (by omega)), if_neg (nI_pos (by omega)), if_neg (nI_pos (by omega)), if_neg (fun w => absurd ((re_long (by omega) (by omega) (by omega)).mp w) (by omega)), if_pos (Int32.not_lt.mp (fun w => absurd ((re_long (by omega) (by omega) (by omega)).mp w) (by omega))), z5, z2]
                · intro k _; rw [gm 1 (by omega) (by omega), gx 1 (by omega)]
                · intro d _ _; rw [gm d (by omega) (by omega), gx d (by omega)]
                · intro k _; rw [gm 34 (by omega) (by omega), gx 34 (by omega)]
                · intro d _ _; rw [gm d (by omega) (by omega), gx d (by omega)]
                · intro i _; rw [gm 43 (by omega) (by omega), gx 43 (by omega)]
                · intro k _; rw [gm 0 (by omega) (by omega), gx 0 (by omega)]
                · rw [gm 33 (by omega) (by omega), gx 33 (by omega)]
                · intro k _; rw [gm 34 (by omega) (by omega), gx 34 (by omega)]
                · rw [gm 49 (by omega) (by omega), gx 49 (by omega)]
                · rw [gm 0 (by omega) (by omega), gx 0 (by omega)]
                · intro d _ _; rw [gm d (by omega) (by omega), gx d (by omega)]
                · rw [gm 34 (by omega) (by omega), gx 34 (by omega)]
                · rw [gm 44 (by omega) (by omega), gx 44 (by omega)]
                · rw [gm 45 (by omega) (by omega), gx 45 (by omega)]
                · intro d _ _ _ h2; rw [gm d (by omega) (by omega), gx d h2]
                · intro k _; rw [gm 35 (by omega) (by omega), gx 35 (by omega)]
                · intro k _; rw [gm 36 (by omega) (by omega), gx 36 (by omega)]
                · intro k hk; rw [k2 k (by omega), m2 37 (by decide), gx 37 (by omega)]
                · rw [gm _ (by omega) (by omega), gx _ (by omega)]; exact hy.2.1
                · rw [gm 36 (by omega) (by omega), gx 36 (by omega)]; exact hy.2.2.1
                · rw [gm (25 + 2 * v) (by omega) (by omega), gx (25 + 2 * v) (by omega), gm 35 (by omega) (by omega), gx 35 (by omega)]; exact hy.2.2.2.1
                · rw [gm _ (by omega) (by omega), eσ1, sp_cs]
                  by_cases hir : r ≤ i ∧ i < r + q'
                  · rw [pk_cpy_in hir.1 hir.2, hz.2.2.2.2 _ (by omega)]
                    have e1 : 60 * v + i = 60 * v + r + (i - r) := by omega
                    rw [e1, k1 _ (by omega), m1 _ (by omega), gx 37 (by omega)]
                    congr 1; omega
                  · rw [pk_cpy_out (by omega), k2 _ (by omega), m2 37 (by decide), gx 37 (by omega)]
                    exact hy.2.2.2.2 i hi
              · simp only [w2, if_true]
                obtain ⟨r, σ1, σ2, y1, y2, y3⟩ := hfail (by
                  rcases hx with hx | hx | hx
                  · exact Or.inr (Or.inl hx)
                  · exact Or.inr (Or.inr (Or.inl hx))
                  · exact Or.inr (Or.inr (Or.inr (Or.inr hx)))) (Or.inr w2)
                refine ⟨r, σ1, σ2, y1, ?_, y3⟩
                have ey := Option.some.inj y1
                rw [hM0 σ1 (fun d hd => by rw [← (Prod.mk.inj ey).2]; exact sp_n (by omega))]
                exact y2
            · simp only [w1, if_true]
              obtain ⟨r, σ1, σ2, y1, y2, y3⟩ := hfail (by
                rcases hx with hx | hx | hx
                · exact Or.inl hx
                · exact Or.inr (Or.inr (Or.inl hx))
                · exact Or.inr (Or.inr (Or.inr (Or.inl hx)))) (Or.inl w1)
              refine ⟨r, σ1, σ2, y1, ?_, y3⟩
              have ey := Option.some.inj y1
              rw [hM0 σ1 (fun d hd => by rw [← (Prod.mk.inj ey).2]; exact sp_n (by omega))]
              exact y2
          · have hne : ¬ nI f = nI g := fun w => hfg ((nI_eq (by omega) (by omega)).mp w)
            refine ⟨-10 - 4, tl_set σ 0 12 4, tl_set (tl_set σ 0 12 4) 34 4 4, by rw [if_neg hne], ?_, re_find HR 4⟩
            rw [sp_n (d := 35) (by decide), if_neg q2', if_pos q4, if_neg (by rw [e2, e4]; exact hne)]
        · simp only [if_pos q1, if_neg q3]
          obtain ⟨r, σ1, σ2, y1, y2, y3⟩ := hnull
          refine ⟨r, σ1, σ2, y1, ?_, y3⟩
          have ey := Option.some.inj y1
          have e35 : σ1 35 = σ 35 := by rw [← (Prod.mk.inj ey).2]; exact sp_n (by omega)
          rw [e35, if_neg q2', if_neg q4]
          exact y2
      · have q2' : σ 35 s < 0 := Int32.not_le.mp q2
        simp only [if_neg q1]
        obtain ⟨r, σ1, σ2, y1, y2, y3⟩ := hnull
        refine ⟨r, σ1, σ2, y1, ?_, y3⟩
        have ey := Option.some.inj y1
        have e35 : σ1 35 = σ 35 := by rw [← (Prod.mk.inj ey).2]; exact sp_n (by omega)
        rw [e35, if_pos q2']
        exact y2

