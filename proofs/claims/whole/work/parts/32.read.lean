/-! read: basins from a sheet, three items each -/
def rd_c (c : tl_St) (N : Nat) (it : Nat → Int32) : Nat → tl_St
  | 0 => c
  | k + 1 => re_ad (rd_c c N it k) (N + k) (it (3 * k)) (it (3 * k + 1)) (it (3 * k + 2))
def rd_h (he : Nat → Int32) (N : Nat) : Nat → Nat → Int32
  | 0 => he
  | k + 1 => upd (rd_h he N k) (N + k) 0
def rd_ok (it : Nat → Int32) (k : Nat) : Prop := re_ok (it (3 * k)) (it (3 * k + 1)) (it (3 * k + 2))
/-- where it stops -/
def rd_K (it : Nat → Int32) (z N K : Nat) : Prop := 3 * K ≤ z ∧ N + K ≤ 4 ∧ (∀ k, k < K → rd_ok it k) ∧ (z < 3 * K + 3 ∨ N + K = 4 ∨ ¬ rd_ok it K)
theorem rd_uniq {it : Nat → Int32} {z N K L : Nat} (h1 : rd_K it z N K) (h2 : rd_K it z N L) : K = L := by
  obtain ⟨a1, a2, a3, a4⟩ := h1
  obtain ⟨b1, b2, b3, b4⟩ := h2
  rcases Nat.lt_trichotomy K L with q | q | q
  · rcases a4 with a4 | a4 | a4
    · omega
    · omega
    · exact absurd (b3 K q) a4
  · exact q
  · rcases b4 with b4 | b4 | b4
    · omega
    · omega
    · exact absurd (a3 L q) b4
theorem rd_C {c : tl_St} {N h : Nat} {it : Nat → Int32} (hC : sp_C c N h) : ∀ k : Nat, N + k ≤ 4 → (∀ j, j < k → rd_ok it j) → sp_C (rd_c c N it k) (N + k) h
  | 0, _, _ => hC
  | k + 1, h1, h2 => re_ad_C (rd_C hC k (by omega) (fun j hj => h2 j (by omega))) (by omega) (h2 k (by omega))
theorem rd_H {c : tl_St} {N : Nat} {he it : Nat → Int32} (hH : sp_H c N he) : ∀ k : Nat, (∀ j, j < k → rd_ok it j) → sp_H (rd_c c N it k) (N + k) (rd_h he N k)
  | 0, _ => hH
  | k + 1, h2 => re_ad_H (rd_H hH k (fun j hj => h2 j (by omega))) (h2 k (by omega))
theorem rd_c0 (c : tl_St) (N : Nat) (it : Nat → Int32) : ∀ k : Nat, (rd_c c N it k) 0 = c 0
  | 0 => rfl
  | k + 1 => by
    show re_ad _ _ _ _ _ 0 = _
    unfold re_ad
    rw [sp_n (by decide), sp_n (by decide), sp_n (by decide), sp_n (by decide)]
    exact rd_c0 c N it k
theorem rd_XL {σ0 c : tl_St} {he it : Nat → Int32} {N s z : Nat} (hs : s < 4) (hz : z ≤ 60) (e2 : σ0 (25 + 2 * s) 2 = nI z) (hit : ∀ i, i < z → σ0 (25 + 2 * s + 1) i = it i) (k8 : tl_St → Int32 → Option (Int32 × tl_St)) : ∀ (n k : Nat) (σ : tl_St), 5 - k ≤ n → 3 * k ≤ z → N + k ≤ 4 → (∀ j, j < k → rd_ok it j) → sp_RX 1 σ (rd_c c N it k) (rd_h he N k) (N + k) → (∀ d, d < 1 ∨ 7 < d → σ d = σ0 d) → (∀ f, f ≠ 2 → σ 1 f = σ0 1 f) → ∃ K σ', fX3_read_L35 (25 + 2 * s) k8 n σ (nI k) (nI (3 * k)) = k8 σ' (nI K) ∧ rd_K it z N K ∧ sp_RX 1 σ' (rd_c c N it K) (rd_h he N K) (N + K) ∧ (∀ d, d < 1 ∨ 7 < d → σ' d = σ0 d) ∧ (∀ f, f ≠ 2 → σ' 1 f = σ0 1 f) := by
  intro n
  induction n with
  | zero => intro k σ h1; omega
  | succ n ih =>
    intro k σ h1 h2 h3 h4 hR h5 h6
    rw [fX3_read_L35, h5 _ (by omega), e2, show (2 : Int32) = nI 2 from rfl, nI_add]
    by_cases c1 : z ≤ 3 * k + 2
    · rw [if_pos ((sp_le (by omega) (by omega)).mpr c1)]
      exact ⟨k, σ, rfl, ⟨h2, h3, h4, Or.inl (by omega)⟩, hR, h5, h6⟩
    · rw [if_neg (fun q => c1 ((sp_le (by omega) (by omega)).mp q)), hR.2.1]
      by_cases c2 : N + k = 4
      · rw [if_pos (sp_ge (m := 4) (k := 4) rfl (by omega) (by omega))]
        exact ⟨k, σ, rfl, ⟨h2, h3, h4, Or.inr (Or.inl c2)⟩, hR, h5, h6⟩
      · rw [if_neg (sp_nge (m := 4) (k := 4) rfl (by omega) (by decide))]
        have i0 : tl_in (nI (3 * k)) 60 := sp_in (by omega) (by decide)
        have i1 : tl_in (nI (3 * k + 1)) 60 := sp_in (by omega) (by decide)
        have i2 : tl_in (nI (3 * k + 2)) 60 := sp_in (by omega) (by decide)
        have a0 : (nI (3 * k)).toNatClampNeg = 3 * k := sp_cl (by omega)
        have a1 : (nI (3 * k + 1)).toNatClampNeg = 3 * k + 1 := sp_cl (by omega)
        have a2 : (nI (3 * k + 2)).toNatClampNeg = 3 * k + 2 := sp_cl (by omega)
        simp only [nI_1, if_pos i0, if_pos i1, if_pos i2, a0, a1, a2, h5 (25 + 2 * s + 1) (by omega), hit (3 * k) (by omega), hit (3 * k + 1) (by omega), hit (3 * k + 2) (by omega), tl_be]
        rcases re_may σ (it (3 * k)) (it (3 * k + 1)) (it (3 * k + 2)) with ⟨w, ok⟩ | ⟨w, no⟩
        · rw [w, if_neg re_10]
          obtain ⟨σ1, z1, x1, x2, x3⟩ := re_addX (b := it (3 * k)) (r := it (3 * k + 1)) (w := it (3 * k + 2)) (show N + k < 4 by omega) hR
          rw [z1, tl_oe]
          have e3 : nI (3 * k) + 3 = nI (3 * (k + 1)) := by rw [show (3 : Int32) = nI 3 from rfl, nI_add]; congr 1
          rw [e3]
          refine ih (k + 1) σ1 (by omega) (by omega) (by omega) (fun j hj => ?_) x1 (fun d hd => by rw [x2 d hd, h5 d hd]) (fun f hf => by rw [x3 f hf, h6 f hf])
          by_cases hjk : j = k
          · subst hjk; exact ok
          · exact h4 j (by omega)
        · rw [w, if_pos rfl]
          exact ⟨k, σ, rfl, ⟨h2, h3, h4, Or.inr (Or.inr no)⟩, hR, h5, h6⟩
theorem rd_ML {σ0 c : tl_St} {he it : Nat → Int32} {N s z : Nat} (hs : s < 4) (hz : z ≤ 60) (e2 : σ0 36 s = nI z) (hit : ∀ i, i < z → σ0 37 (60 * s + i) = it i) (k7 : tl_St → Int32 → Option (Int32 × tl_St)) : ∀ (n k : Nat) (σ : tl_St), 6 - k ≤ n → 3 * k ≤ z → N + k ≤ 4 → (∀ j, j < k → rd_ok it j) → sp_RM σ (rd_c c N it k) (rd_h he N k) (N + k) → (∀ d, d < 34 ∨ (34 < d ∧ d < 39) ∨ 43 < d → σ d = σ0 d) → (∀ f, f ≠ 7 → σ 34 f = σ0 34 f) → ∃ K σ', fX4_read_L29 (nI s) k7 n σ (nI k) 1 = k7 σ' (nI K) ∧ rd_K it z N K ∧ sp_RM σ' (rd_c c N it K) (rd_h he N K) (N + K) ∧ (∀ d, d < 34 ∨ (34 < d ∧ d < 39) ∨ 43 < d → σ' d = σ0 d) ∧ (∀ f, f ≠ 7 → σ' 34 f = σ0 34 f) := by
  have his : tl_in (nI s) 4 := sp_in (by omega) (by decide)
  have hcs : (nI s).toNatClampNeg = s := sp_cl (by omega)
  intro n
  induction n with
  | zero => intro k σ h1; omega
  | succ n ih =>
    intro k σ h1 h2 h3 h4 hR h5 h6
    have e33 : 3 * nI k + 3 = nI (3 * k + 3) := by rw [show (3 : Int32) = nI 3 from rfl, pk_mul, nI_add]
    rw [fX4_read_L29, if_neg re_10]
    simp only [if_pos his, hcs, h5 36 (by omega), e2, e33]
    by_cases c1 : z < 3 * k + 3
    · rw [if_pos ((sp_lt (by omega) (by omega)).mpr c1)]
      exact ⟨k, σ, rfl, ⟨h2, h3, h4, Or.inl c1⟩, hR, h5, h6⟩
    · rw [if_neg (fun q => c1 ((sp_lt (by omega) (by omega)).mp q))]
      have e60 : 60 * nI s + 3 * nI k = nI (60 * s + 3 * k) := by rw [show (3 : Int32) = nI 3 from rfl, show (60 : Int32) = nI 60 from rfl, pk_mul, pk_mul, nI_add]
      have b1 : nI (60 * s + 3 * k) + 1 = nI (60 * s + 3 * k + 1) := nI_1 _
      have b2 : nI (60 * s + 3 * k) + 2 = nI (60 * s + 3 * k + 2) := nI_add _ 2
      have i0 : tl_in (nI (60 * s + 3 * k)) 240 := sp_in (by omega) (by decide)
      have i1 : tl_in (nI (60 * s + 3 * k + 1)) 240 := sp_in (by omega) (by decide)
      have i2 : tl_in (nI (60 * s + 3 * k + 2)) 240 := sp_in (by omega) (by decide)
      have a0 : (nI (60 * s + 3 * k)).toNatClampNeg = 60 * s + 3 * k := sp_cl (by omega)
      have a1 : (nI (60 * s + 3 * k + 1)).toNatClampNeg = 60 * s + 3 * k + 1 := sp_cl (by omega)
      have a2 : (nI (60 * s + 3 * k + 2)).toNatClampNeg = 60 * s + 3 * k + 2 := sp_cl (by omega)
      have g1 : σ0 37 (60 * s + 3 * k + 1) = it (3 * k + 1) := hit (3 * k + 1) (by omega)
      have g2 : σ0 37 (60 * s + 3 * k + 2) = it (3 * k + 2) := hit (3 * k + 2) (by omega)
      simp only [e60, tl_be, b1, b2, if_pos i0, if_pos i1, if_pos i2, a0, a1, a2, h5 37 (by omega), hit (3 * k) (by omega), g1, g2]
      by_cases ok : re_ok (it (3 * k)) (it (3 * k + 1)) (it (3 * k + 2))
      · by_cases c2 : N + k = 4
        · have h4' : σ 34 7 = 4 := by rw [hR.2.1, c2]; rfl
          rw [re_fullM ok h4', tl_oe2]
          obtain ⟨n', rfl⟩ : ∃ n', n = n' + 1 := ⟨n - 1, by omega⟩
          simp only [if_pos (show (-4 : Int32) < 0 from by decide), if_true, Int32.add_zero]
          rw [fX4_read_L29, if_pos rfl]
          exact ⟨k, σ, rfl, ⟨h2, h3, h4, Or.inr (Or.inl c2)⟩, hR, h5, h6⟩
        · obtain ⟨σ1, z1, x1, x2, x3⟩ := re_addM (show N + k < 4 by omega) hR ok
          rw [z1, tl_oe2]
          simp only [if_neg (nI_pos (n := N + k + 1) (by omega)), if_neg re_10]
          rw [nI_1]
          refine ih (k + 1) σ1 (by omega) (by omega) (by omega) (fun j hj => ?_) x1 (fun d hd => by rw [x2 d hd, h5 d hd]) (fun f hf => by rw [x3 f hf, h6 f hf])
          by_cases hjk : j = k
          · subst hjk; exact ok
          · exact h4 j (by omega)
      · rw [re_refM ok, tl_oe2]
        obtain ⟨n', rfl⟩ : ∃ n', n = n' + 1 := ⟨n - 1, by omega⟩
        simp only [if_pos (show (-2 : Int32) < 0 from by decide), if_true, Int32.add_zero]
        rw [fX4_read_L29, if_pos rfl]
        exact ⟨k, σ, rfl, ⟨h2, h3, h4, Or.inr (Or.inr ok)⟩, hR, h5, h6⟩
theorem re_read {σ : tl_St} (H : re_R σ) (a : Int32) : ∃ r σ1 σ2, fX3_read σ a = some (r, σ1) ∧ fX4_read σ1 a = some (r, σ2) ∧ re_R σ2 := by
  obtain ⟨c, he, fl, N, h, u, t, C, H⟩ := H
  obtain ⟨⟨hC, hH, hu, hcu, hX, hXf, hM, hMf⟩, Hl, Hb, Hs⟩ := id H
  have HR : re_R σ := ⟨c, he, fl, N, h, u, t, C, H⟩
  have hN := hC.2.2.2.1
  unfold fX3_read fX4_read
  simp only [tl_be, re_fX, re_fM, tl_be2]
  rcases re_sh a with ⟨s1, s2⟩ | ⟨s, hs, rfl, s1, s2⟩
  · exact ⟨-2, σ, σ, by rw [s1, if_pos rfl], by rw [s2, if_pos rfl], HR⟩
  · have hin : tl_in (nI s) 4 := sp_in (by omega) (by decide)
    have hcl : (nI s).toNatClampNeg = s := sp_cl (by omega)
    simp only [s1, s2, if_neg re_10, if_pos hin, hcl]
    obtain ⟨z, hz⟩ := Hs s hs
    have hz60 := hz.1
    rcases re_lostX hz with ⟨q1, q2, -⟩ | ⟨q1, q2⟩
    · obtain ⟨K, σ1, z1, k1, x1, x2, x3⟩ := rd_XL (σ0 := σ) (c := c) (he := he) (it := σ (25 + 2 * s + 1)) (N := N) hs hz60 hz.2.1 (fun _ _ => rfl) (fun σ6 x7 => some (x7, σ6)) 1000 0 σ (by omega) (by omega) hN (fun j hj => absurd hj (by omega)) hX (fun _ _ => rfl) (fun _ _ => rfl)
      rw [nI_0] at z1
      have g1 : ∀ d, 33 < d → σ1 d = σ d := fun d hd => x2 d (by omega)
      obtain ⟨L, σ2, z2, k2, m1, m2, m3⟩ := rd_ML (σ0 := σ1) (c := c) (he := he) (it := σ (25 + 2 * s + 1)) (N := N) hs hz60 (by rw [g1 36 (by omega)]; exact hz.2.2.1) (fun i hi => by rw [g1 37 (by omega)]; exact (hz.2.2.2.2 i hi).symm) (fun σ5 x6 => some (x6, σ5)) 1000 0 σ1 (by omega) (by omega) hN (fun j hj => absurd hj (by omega)) (hM.cg (fun d p _ => g1 d p)) (fun _ _ => rfl) (fun _ _ => rfl)
      rw [nI_0] at z2
      have hKL := rd_uniq k2 k1
      subst hKL
      have e0 := rd_c0 c N (σ (25 + 2 * s + 1)) L
      refine ⟨nI L, σ1, σ2, ?_, ?_, rd_c c N (σ (25 + 2 * s + 1)) L, rd_h he N L, fl, N + L, h, u, t, C, ⟨rd_C hC L k1.2.1 k1.2.2.1, rd_H hH L k1.2.2.1, hu, by rw [e0]; exact hcu, x1.cg (fun d _ _ => m2 d (by omega)), ?_, m1, ?_⟩, Hl.cg ?_ ?_ ?_ ?_, Hb.cg ?_ ?_ ?_ ?_ ?_, Hs.cg ?_ ?_⟩
      · rw [if_pos q1]; exact z1
      · rw [g1 35 (by omega), if_pos q2]; exact z2
      · rw [m2 1 (by omega), x3 1 (by decide), e0]; exact hXf
      · rw [m3 6 (by decide), g1 34 (by omega)]; exact hMf
      · intro k hk; rw [m2 0 (by omega), x2 0 (by omega)]
      · rw [m2 33 (by omega), x2 33 (by omega)]
      · intro k hk; rw [m3 k (by omega), x2 34 (by omega)]
      · rw [m2 49 (by omega), x2 49 (by omega)]
      · rw [m2 0 (by omega), x2 0 (by omega)]
      · intro d _ _; rw [m2 d (by omega), x2 d (by omega)]
      · rw [m3 14 (by decide), x2 34 (by omega)]
      · rw [m2 44 (by omega), x2 44 (by omega)]
      · rw [m2 45 (by omega), x2 45 (by omega)]
      · intro d _ _; rw [m2 d (by omega), x2 d (by omega)]
      · intro d _ _; rw [m2 d (by omega), x2 d (by omega)]
    · refine ⟨-10 - 1, tl_set σ 0 12 1, tl_set (tl_set σ 0 12 1) 34 4 1, ?_, ?_, re_find HR 1⟩
      · rw [if_neg q1]
      · rw [sp_n (by decide), if_neg q2]

