/-! a boat goes away -/
theorem bo_erase : ∀ (l : List Nat) (p b : Nat), l.Nodup → l[p]? = some b → l.filter (fun x => decide (x ≠ b)) = l.eraseIdx p
  | [], p, b, _, h => by simp at h
  | x :: l, 0, b, hn, h => by
    have hb : x = b := by simpa using h
    subst hb
    have hx := (List.nodup_cons.mp hn).1
    rw [List.filter_cons, if_neg (by simp), List.eraseIdx_cons_zero, List.filter_eq_self]
    intro a ha
    simp only [decide_eq_true_eq]
    intro e
    exact hx (e ▸ ha)
  | x :: l, p + 1, b, hn, h => by
    have hb : l[p]? = some b := by simpa using h
    have hx := List.nodup_cons.mp hn
    have hne : x ≠ b := fun e => hx.1 (e ▸ List.mem_of_getElem? hb)
    rw [List.filter_cons, if_pos (by simpa using hne), List.eraseIdx_cons_succ, bo_erase l p b hx.2 hb]
def bo_row (σ : tl_St) (o : Nat) (l : List Nat) : Prop := σ o 1 = nI l.length ∧ l.length ≤ 16 ∧ ∀ j, j < l.length → σ (o + 1) j = nI (l.getD j 0)
theorem bo_row.cg {σ σ' : tl_St} {o : Nat} {l : List Nat} (h : bo_row σ o l) (h1 : σ' o 1 = σ o 1) (h2 : σ' (o + 1) = σ (o + 1)) : bo_row σ' o l := by
  unfold bo_row at h ⊢
  rw [h1, h2]; exact h
theorem bo_remove {σ : tl_St} {o p : Nat} {l : List Nat} (hl : bo_row σ o l) (hp : p < l.length) : ∃ σ', fX0_removeAt σ o (nI p) = some σ' ∧ bo_row σ' o (l.eraseIdx p) ∧ (∀ d, d ≠ o → d ≠ o + 1 → σ' d = σ d) ∧ (∀ k, k ≠ 1 → σ' o k = σ o k) := by
  obtain ⟨e1, e2, e3⟩ := hl
  have b1 : nI p + 1 = nI (p + 1) := nI_1 p
  have b2 : nI l.length - nI p - 1 = nI (l.length - p - 1) := by
    rw [pk_sub (by omega), show (1 : Int32) = nI 1 from rfl, pk_sub (by omega)]
  have c1 : (nI (p + 1)).toNatClampNeg = p + 1 := sp_cl (by omega)
  have c0 : (nI p).toNatClampNeg = p := sp_cl (by omega)
  have c2 : (nI (l.length - p - 1)).toNatClampNeg = l.length - p - 1 := sp_cl (by omega)
  have hok : tl_cok (nI (p + 1)) (nI p) (nI (l.length - p - 1)) 16 16 := ⟨nI_pos (by omega), nI_pos (by omega), nI_pos (by omega), by rw [c1, c2]; omega, by rw [c0, c2]; omega⟩
  refine ⟨tl_set (tl_setC σ (o + 1) (va_cpy (σ (o + 1)) (σ (o + 1)) (p + 1) p (l.length - p - 1))) o 1 (nI (l.length - 1)), ?_, ⟨?_, ?_, fun j hj => ?_⟩, fun d p1 p2 => ?_, fun k hk => ?_⟩
  · unfold fX0_removeAt
    rw [if_neg (nI_pos (by omega)), e1, if_pos ((sp_lt (by omega) (by omega)).mpr hp)]
    simp only [b1, b2, if_pos hok, c1, c0, c2, tl_be]
    rw [sp_cn (by omega), e1, show (1 : Int32) = nI 1 from rfl, pk_sub (by omega)]
  · rw [sp_ss, List.length_eraseIdx_of_lt hp]
  · rw [List.length_eraseIdx_of_lt hp]; omega
  · rw [List.length_eraseIdx_of_lt hp] at hj
    rw [sp_n (by omega), sp_cs, List.getD_eq_getElem?_getD, List.getElem?_eraseIdx]
    by_cases hjp : j < p
    · rw [if_pos hjp, pk_cpy_out (by omega), e3 j (by omega), List.getD_eq_getElem?_getD]
    · rw [if_neg hjp, pk_cpy_in (by omega) (by omega), show p + 1 + (j - p) = j + 1 by omega, e3 (j + 1) (by omega), List.getD_eq_getElem?_getD]
  · rw [sp_n p1, sp_cn p2]
  · rw [sp_sn hk, sp_cn (by omega)]
theorem bo_place_L {σ : tl_St} {o L : Nat} {a : Int32} (e1 : σ o 1 = nI L) (hL : L ≤ 16) (k1 : Option Int32) : ∀ n i : Nat, i ≤ L → L - i < n → (∀ j, j < i → ¬ σ (o + 1) j = a) → (∃ p, p < L ∧ σ (o + 1) p = a ∧ fX0_placeOf_L2 σ o a k1 n (nI i) = some (nI p)) ∨ ((∀ p, p < L → ¬ σ (o + 1) p = a) ∧ fX0_placeOf_L2 σ o a k1 n (nI i) = k1) := by
  intro n
  induction n with
  | zero => intro i h1 h2; omega
  | succ n ih =>
    intro i h1 h2 h3
    rw [fX0_placeOf_L2, e1]
    by_cases hi : i = L
    · subst hi
      rw [if_pos ((sp_le (by omega) (by omega)).mpr (Nat.le_refl _))]
      exact Or.inr ⟨h3, rfl⟩
    · have hin : tl_in (nI i) 16 := sp_in (by omega) (by decide)
      have hcl : (nI i).toNatClampNeg = i := sp_cl (by omega)
      rw [if_neg (fun q => absurd ((sp_le (by omega) (by omega)).mp q) (by omega))]
      simp only [if_pos hin, hcl, tl_be]
      by_cases h4 : σ (o + 1) i = a
      · rw [if_pos h4]
        exact Or.inl ⟨i, by omega, h4, rfl⟩
      · rw [if_neg h4, ← nI_succ]
        refine ih (i + 1) (by omega) (by omega) (fun j hj => ?_)
        by_cases hji : j = i
        · subst hji; exact h4
        · exact h3 j (by omega)
theorem bo_place {σ : tl_St} {o b : Nat} {l : List Nat} (hl : bo_row σ o l) (hb : b < 2 ^ 31) (hm : ∀ x, x ∈ l → x < 2 ^ 31) : (∃ p, l[p]? = some b ∧ fX0_placeOf σ o (nI b) = some (nI p)) ∨ (b ∉ l ∧ fX0_placeOf σ o (nI b) = some (-1)) := by
  obtain ⟨e1, e2, e3⟩ := hl
  have h0 := bo_place_L (a := nI b) e1 e2 (some (-1)) 1000 0 (by omega) (by omega) (fun j hj => absurd hj (by omega))
  rw [nI_0] at h0
  have key : ∀ p, p < l.length → σ (o + 1) p = nI b → l[p]? = some b := by
    intro p hp h
    rw [e3 p hp] at h
    have hx : l[p]? = some l[p] := List.getElem?_eq_getElem hp
    rw [List.getD_eq_getElem?_getD, hx] at h
    rw [hx]
    congr 1
    exact (nI_eq (hm _ (List.getElem_mem hp)) hb).mp h
  unfold fX0_placeOf
  simp only [tl_be]
  rcases h0 with ⟨p, hp, h1, h2⟩ | ⟨h1, h2⟩
  · exact Or.inl ⟨p, key p hp h1, h2⟩
  · refine Or.inr ⟨fun hmem => ?_, h2⟩
    obtain ⟨p, hp⟩ := List.getElem?_of_mem hmem
    have hpl := (List.getElem?_eq_some_iff.mp hp).1
    apply h1 p hpl
    rw [e3 p hpl, List.getD_eq_getElem?_getD, hp]
    rfl
theorem bo_off {σ : tl_St} {w v C b p : Nat} (hb : (re_q σ w C)[p]? = some b) (hw : w < 2) (hv : v < 2) : re_q (tl_set σ 45 b 0) v C = if v = w then (re_q σ w C).eraseIdx p else re_q σ v C := by
  have hmem := bo_mem.mp (List.mem_of_getElem? hb)
  by_cases hvw : v = w
  · subst hvw
    rw [if_pos rfl, ← bo_erase _ p b (bo_nodup σ v C) hb]
    unfold re_q
    rw [List.filter_filter]
    apply List.filter_congr
    intro x _
    unfold re_wt
    rw [sp_n (d := 44) (by decide)]
    by_cases hx : x = b
    · subst hx; rw [sp_ss]; simp
    · rw [sp_sn hx]; simp [hx]
  · rw [if_neg hvw]
    apply bo_q_cg
    intro x _
    unfold re_wt
    rw [sp_n (d := 44) (by decide)]
    by_cases hx : x = b
    · subst hx
      rw [sp_ss]
      have : ¬ σ 44 x = nI v := fun e => hvw ((nI_eq (by omega) (by omega)).mp (e.symm.trans hmem.2.2))
      simp [this]
    · rw [sp_sn hx]
theorem bo_rowOf {σ : tl_St} {C w : Nat} (Hb : re_b σ C) (hw : w < 2) : bo_row σ (20 + 2 * w) (re_q σ w C) := Hb.2.2.2.2 w hw
theorem bo_lt {σ : tl_St} {C w : Nat} (hC : C ≤ 100) : ∀ x, x ∈ re_q σ w C → x < 2 ^ 31 := fun x hx => by
  have := (bo_mem.mp hx).1
  omega
/-- the class's search over both ways -/
theorem bo_leaveX {σ : tl_St} {C b : Nat} (Hb : re_b σ C) (hb : b < 2 ^ 31) (k2 : Option (Int32 × tl_St)) (n : Nat) : (∃ w p σ1, w < 2 ∧ (re_q σ w C)[p]? = some b ∧ fX3_leave_L9 σ (nI b) k2 (n + 3) 0 = some (nI ((re_q σ w C).length - 1), σ1) ∧ bo_row σ1 (20 + 2 * w) ((re_q σ w C).eraseIdx p) ∧ (∀ d, d ≠ 20 + 2 * w → d ≠ 20 + 2 * w + 1 → σ1 d = σ d)) ∨ ((∀ w, w < 2 → b ∉ re_q σ w C) ∧ fX3_leave_L9 σ (nI b) k2 (n + 3) 0 = k2) := by
  have step : ∀ (m w : Nat), w < 2 → (∃ p σ1, (re_q σ w C)[p]? = some b ∧ fX3_leave_L9 σ (nI b) k2 (m + 1) (nI w) = some (nI ((re_q σ w C).length - 1), σ1) ∧ bo_row σ1 (20 + 2 * w) ((re_q σ w C).eraseIdx p) ∧ (∀ d, d ≠ 20 + 2 * w → d ≠ 20 + 2 * w + 1 → σ1 d = σ d)) ∨ (b ∉ re_q σ w C ∧ fX3_leave_L9 σ (nI b) k2 (m + 1) (nI w) = fX3_leave_L9 σ (nI b) k2 m (nI (w + 1))) := by
    intro m w hw
    have hin : tl_in (nI w) 2 := sp_in (by omega) (by decide)
    have hcl : (nI w).toNatClampNeg = w := sp_cl (by omega)
    rw [fX3_leave_L9, if_neg (show ¬ (1 : Int32) < nI w from fun q => absurd ((sp_lt (a := 1) (by omega) (by omega)).mp q) (by omega))]
    simp only [if_pos hin, hcl, tl_be]
    rcases bo_place (bo_rowOf Hb hw) hb (bo_lt Hb.2.2.1) with ⟨p, hp, hz⟩ | ⟨hn, hz⟩
    · have hpl := (List.getElem?_eq_some_iff.mp hp).1
      obtain ⟨σ1, z1, r1, f1, -⟩ := bo_remove (bo_rowOf Hb hw) hpl
      have h16 := (bo_rowOf Hb hw).2.1
      rw [hz, tl_oe, if_neg (sp_ne1 (by omega)), z1, tl_oe]
      refine Or.inl ⟨p, σ1, hp, ?_, r1, f1⟩
      rw [r1.1, List.length_eraseIdx_of_lt hpl]
    · rw [hz, tl_oe, if_pos rfl, nI_succ]
      exact Or.inr ⟨hn, rfl⟩
  rw [show (0 : Int32) = nI 0 from rfl]
  rcases step (n + 2) 0 (by omega) with ⟨p, σ1, h1, h2, h3, h4⟩ | ⟨h1, h2⟩
  · exact Or.inl ⟨0, p, σ1, by omega, h1, h2, h3, h4⟩
  · rcases step (n + 1) 1 (by omega) with ⟨p, σ1, g1, g2, g3, g4⟩ | ⟨g1, g2⟩
    · exact Or.inl ⟨1, p, σ1, by omega, g1, h2.trans g2, g3, g4⟩
    · refine Or.inr ⟨fun w hw => ?_, ?_⟩
      · rcases (show w = 0 ∨ w = 1 by omega) with rfl | rfl
        · exact h1
        · exact g1
      · have e3 : fX3_leave_L9 σ (nI b) k2 (n + 1) (nI 2) = k2 := by
          rw [fX3_leave_L9, if_pos (show (1 : Int32) < nI 2 from by decide)]
        exact h2.trans (g2.trans e3)
/-- boats behind a removal, on both sides -/
theorem bo_gone {σ σ1 σ2 : tl_St} {C w p b : Nat} (Hb : re_b σ C) (hw : w < 2) (hb : (re_q σ w C)[p]? = some b) (hr : bo_row σ1 (20 + 2 * w) ((re_q σ w C).eraseIdx p)) (x0 : σ1 0 10 = σ 0 10) (xq : ∀ d, 19 < d → d < 24 → d ≠ 20 + 2 * w → d ≠ 20 + 2 * w + 1 → σ1 d = σ d) (m1 : ∀ d, 19 < d → d < 24 → σ2 d = σ1 d) (m0 : σ2 0 10 = σ1 0 10) (m14 : σ2 34 14 = σ 34 14) (m44 : σ2 44 = σ 44) (m45 : σ2 45 = tl_set σ 45 b 0 45) : re_b σ2 C := by
  have hq : ∀ v, re_q σ2 v C = re_q (tl_set σ 45 b 0) v C := fun v => re_q.cg (by rw [m44, sp_n (by decide)]) m45
  refine ⟨by rw [m0, x0]; exact Hb.1, by rw [m14]; exact Hb.2.1, Hb.2.2.1, by rw [m44]; exact Hb.2.2.2.1, fun v hv => ?_⟩
  rw [hq v, bo_off hb hw hv, m1 _ (by omega) (by omega), m1 _ (by omega) (by omega)]
  by_cases hvw : v = w
  · subst hvw
    rw [if_pos rfl]; exact hr
  · rw [if_neg hvw, xq _ (by omega) (by omega) (by omega) (by omega), xq _ (by omega) (by omega) (by omega) (by omega)]
    exact Hb.2.2.2.2 v hv
theorem re_leave {σ : tl_St} (H : re_R σ) (a : Int32) : ∃ r σ1 σ2, fX3_leave σ a = some (r, σ1) ∧ fX4_leave σ1 a = some (r, σ2) ∧ re_R σ2 := by
  obtain ⟨c, he, fl, N, h, u, t, C, H⟩ := H
  obtain ⟨⟨hC, hH, hu, hcu, hX, hXf, hM, hMf⟩, Hl, Hb, Hs⟩ := id H
  have HR : re_R σ := ⟨c, he, fl, N, h, u, t, C, H⟩
  have hN := hC.2.2.2.1
  obtain ⟨b1, b2, b3, b4, b5⟩ := id Hb
  by_cases h0 : 0 ≤ a
  · obtain ⟨b, hb, rfl⟩ := nI_of (Int32.not_lt.mpr h0)
    have hx : fX3_leave σ (nI b) = fX3_leave_L9 σ (nI b) (some (-3, σ)) (997 + 3) 0 := by
      unfold fX3_leave
      rw [if_pos h0, tl_be]
    rcases bo_leaveX Hb hb (some (-3, σ)) 997 with ⟨w, p, σ1, hw, hp, z1, r1, f1⟩ | ⟨hn, z1⟩
    · have hmem := bo_mem.mp (List.mem_of_getElem? hp)
      have hpl := (List.getElem?_eq_some_iff.mp hp).1
      have hin : tl_in (nI b) 100 := sp_in (by omega) (by decide)
      have hcl : (nI b).toNatClampNeg = b := sp_cl (by omega)
      have g1 : ∀ d, d < 20 ∨ 23 < d → σ1 d = σ d := fun d hd => f1 d (by omega) (by omega)
      have hM1 : fX4_leave σ1 (nI b) = some (nI ((re_q σ w C).length - 1), tl_set σ1 45 b 0) := by
        have e14 : tl_set σ1 45 b 0 34 14 = nI C := by rw [sp_n (by decide), g1 34 (by omega)]; exact b2
        have e44 : tl_set σ1 45 b 0 44 b = nI w := by rw [sp_n (by decide), g1 44 (by omega)]; exact hmem.2.2
        have eq : re_q (tl_set σ1 45 b 0) w C = (re_q σ w C).eraseIdx p := by
          have : re_q (tl_set σ1 45 b 0) w C = re_q (tl_set σ 45 b 0) w C := re_q.cg (by rw [sp_n (by decide), sp_n (by decide), g1 44 (by omega)]) (by rw [sp_s, sp_s, g1 45 (by omega)])
          rw [this, bo_off hp hw hw, if_pos rfl]
        unfold fX4_leave
        simp only [if_pos h0, g1 34 (by omega), b2, g1 45 (by omega), tl_be]
        rw [if_neg (sp_nge rfl hmem.1 (by omega))]
        simp only [if_pos hin, hcl, if_neg hmem.2.1, e44]
        rw [bo_many e14 b3, tl_oe, eq, List.length_eraseIdx_of_lt hpl]
      refine ⟨nI ((re_q σ w C).length - 1), σ1, tl_set σ1 45 b 0, hx.trans z1, hM1, c, he, fl, N, h, u, t, C, H.1.cg ?_ ?_ ?_ ?_ ?_, Hl.cg ?_ ?_ ?_ ?_, bo_gone Hb hw hp r1 (by rw [g1 0 (by omega)]) (fun d p1 p2 p3 p4 => f1 d p3 p4) (fun d p1 p2 => sp_n (by omega)) (by rw [sp_n (by decide)]) (by rw [sp_n (by decide), g1 34 (by omega)]) (by rw [sp_n (by decide), g1 44 (by omega)]) (by rw [sp_s, sp_s, g1 45 (by omega)]), Hs.cg ?_ ?_⟩
      · intro k _; rw [sp_n (by decide), g1 1 (by omega)]
      · intro d _ _; rw [sp_n (by omega), g1 d (by omega)]
      · intro k _; rw [sp_n (by decide), g1 34 (by omega)]
      · intro d _ _; rw [sp_n (by omega), g1 d (by omega)]
      · intro i _; rw [sp_n (by decide), g1 43 (by omega)]
      · intro k _; rw [sp_n (by decide), g1 0 (by omega)]
      · rw [sp_n (by decide), g1 33 (by omega)]
      · intro k _; rw [sp_n (by decide), g1 34 (by omega)]
      · rw [sp_n (by decide), g1 49 (by omega)]
      · intro d _ _; rw [sp_n (by omega), g1 d (by omega)]
      · intro d _ _; rw [sp_n (by omega), g1 d (by omega)]
    · refine ⟨-3, σ, σ, hx.trans z1, ?_, HR⟩
      unfold fX4_leave
      rw [if_pos h0, b2]
      by_cases hbC : C ≤ b
      · rw [if_pos (sp_ge rfl hbC (by omega))]
      · have hin : tl_in (nI b) 100 := sp_in (by omega) (by decide)
        have hcl : (nI b).toNatClampNeg = b := sp_cl (by omega)
        have h45 : σ 45 b = 0 := by
          rcases b4 b (by omega) with e | e
          · by_cases hz : σ 45 b = 0
            · exact hz
            · exact absurd (bo_mem.mpr ⟨by omega, hz, e⟩) (hn 0 (by omega))
          · by_cases hz : σ 45 b = 0
            · exact hz
            · exact absurd (bo_mem.mpr ⟨by omega, hz, e⟩) (hn 1 (by omega))
        rw [if_neg (sp_nge rfl (by omega) (by omega))]
        simp only [if_pos hin, hcl, h45, if_true]
  · refine ⟨-2, σ, σ, ?_, ?_, HR⟩
    · unfold fX3_leave; rw [if_neg h0]
    · unfold fX4_leave; rw [if_neg h0]

