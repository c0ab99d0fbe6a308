/-! THE RELATION between the class's cells and the reference's -/
def re_w (σ c : tl_St) (he : Nat → Int32) (fl : Bool) (N h u : Nat) : Prop := sp_C c N h ∧ sp_H c N he ∧ u < 16 ∧ c 0 2 = nI u ∧ sp_RX 1 σ c he N ∧ σ 1 1 = (if fl then c 0 0 else 0) ∧ sp_RM σ c he N ∧ σ 34 6 = sp_f fl
def re_l (σ : tl_St) (t : Nat) : Prop := σ 0 5 = nI t ∧ σ 34 25 = nI t ∧ t ≤ 60 ∧ σ 33 = σ 49 ∧ σ 0 6 = σ 34 29 ∧ σ 0 7 = σ 34 26 ∧ σ 0 8 = σ 34 27 ∧ σ 0 9 = σ 34 28 ∧ σ 0 11 = σ 34 17 ∧ σ 0 12 = σ 34 4
abbrev re_wt (σ : tl_St) (w b : Nat) : Prop := ¬ σ 45 b = 0 ∧ σ 44 b = nI w
def re_q (σ : tl_St) (w C : Nat) : List Nat := (List.range C).filter (fun b => decide (re_wt σ w b))
def re_b (σ : tl_St) (C : Nat) : Prop := σ 0 10 = nI C ∧ σ 34 14 = nI C ∧ C ≤ 100 ∧ (∀ b, b < C → σ 44 b = nI 0 ∨ σ 44 b = nI 1) ∧ ∀ w, w < 2 → σ (20 + 2 * w) 1 = nI (re_q σ w C).length ∧ (re_q σ w C).length ≤ 16 ∧ ∀ j, j < (re_q σ w C).length → σ (20 + 2 * w + 1) j = nI ((re_q σ w C).getD j 0)
def re_s1 (σ : tl_St) (s z : Nat) : Prop := z ≤ 60 ∧ σ (25 + 2 * s) 2 = nI z ∧ σ 36 s = nI z ∧ ((σ (25 + 2 * s) 0 = 1 ∧ σ 35 s = -1) ∨ (σ (25 + 2 * s) 0 = 0 ∧ ∃ f, f < 3 ∧ σ (25 + 2 * s) 1 = nI f ∧ σ 35 s = nI f)) ∧ ∀ i, i < z → σ (25 + 2 * s + 1) i = σ 37 (60 * s + i)
def re_s (σ : tl_St) : Prop := ∀ s, s < 4 → ∃ z, re_s1 σ s z
def re_P (σ c : tl_St) (he : Nat → Int32) (fl : Bool) (N h u t C : Nat) : Prop := re_w σ c he fl N h u ∧ re_l σ t ∧ re_b σ C ∧ re_s σ
def re_R (σ : tl_St) : Prop := ∃ c he fl N h u t C, re_P σ c he fl N h u t C
/-! what each part looks at -/
theorem re_w.cg {σ σ' c : tl_St} {he : Nat → Int32} {fl : Bool} {N h u : Nat} (H : re_w σ c he fl N h u) (h1 : ∀ k, k < 4 → σ' 1 k = σ 1 k) (h2 : ∀ d, 1 < d → d < 8 → σ' d = σ d) (h3 : ∀ k, k = 5 ∨ k = 6 ∨ k = 7 ∨ k = 13 → σ' 34 k = σ 34 k) (h4 : ∀ d, 38 < d → d < 43 → σ' d = σ d) (h5 : ∀ i, i < 4 → σ' 43 i = σ 43 i) : re_w σ' c he fl N h u := by
  obtain ⟨a1, a2, a3, a4, a5, a6, a7, a8⟩ := H
  have hN := a1.2.2.2.1
  refine ⟨a1, a2, a3, a4, ⟨?_, ?_, ?_, fun i hi => ?_⟩, ?_, ⟨?_, ?_, ?_, fun i hi => ?_⟩, ?_⟩
  · rw [h1 0 (by omega)]; exact a5.1
  · rw [h1 2 (by omega)]; exact a5.2.1
  · rw [h1 3 (by omega)]; exact a5.2.2.1
  · rw [h2 (1 + 1) (by omega) (by omega), h2 (1 + 2) (by omega) (by omega), h2 (1 + 3) (by omega) (by omega), h2 (1 + 4) (by omega) (by omega), h2 (1 + 5) (by omega) (by omega), h2 (1 + 6) (by omega) (by omega)]; exact a5.2.2.2 i hi
  · rw [h1 1 (by omega)]; exact a6
  · rw [h3 5 (by omega)]; exact a7.1
  · rw [h3 7 (by omega)]; exact a7.2.1
  · rw [h3 13 (by omega)]; exact a7.2.2.1
  · rw [h4 39 (by omega) (by omega), h4 40 (by omega) (by omega), h4 41 (by omega) (by omega), h4 42 (by omega) (by omega), h5 i (by omega)]; exact a7.2.2.2 i hi
  · rw [h3 6 (by omega)]; exact a8
theorem re_l.cg {σ σ' : tl_St} {t : Nat} (H : re_l σ t) (h1 : ∀ k, k ≠ 10 → σ' 0 k = σ 0 k) (h2 : σ' 33 = σ 33) (h3 : ∀ k, k = 4 ∨ k = 17 ∨ (24 < k ∧ k < 30) → σ' 34 k = σ 34 k) (h4 : σ' 49 = σ 49) : re_l σ' t := by
  unfold re_l at H ⊢
  rw [h1 5 (by omega), h1 6 (by omega), h1 7 (by omega), h1 8 (by omega), h1 9 (by omega), h1 11 (by omega), h1 12 (by omega), h2, h4, h3 25 (by omega), h3 26 (by omega), h3 27 (by omega), h3 28 (by omega), h3 29 (by omega), h3 17 (by omega), h3 4 (by omega)]
  exact H
theorem re_q.cg {σ σ' : tl_St} {w C : Nat} (h1 : σ' 44 = σ 44) (h2 : σ' 45 = σ 45) : re_q σ' w C = re_q σ w C := by
  unfold re_q re_wt
  rw [h1, h2]
theorem re_b.cg {σ σ' : tl_St} {C : Nat} (H : re_b σ C) (h1 : σ' 0 10 = σ 0 10) (h2 : ∀ d, 19 < d → d < 24 → σ' d = σ d) (h3 : σ' 34 14 = σ 34 14) (h4 : σ' 44 = σ 44) (h5 : σ' 45 = σ 45) : re_b σ' C := by
  obtain ⟨a1, a2, a3, a4, a5⟩ := H
  refine ⟨by rw [h1]; exact a1, by rw [h3]; exact a2, a3, by rw [h4]; exact a4, fun w hw => ?_⟩
  rw [re_q.cg h4 h5, h2 _ (by omega) (by omega), h2 _ (by omega) (by omega)]
  exact a5 w hw
theorem re_s.cg {σ σ' : tl_St} (H : re_s σ) (h1 : ∀ d, 24 < d → d < 33 → σ' d = σ d) (h2 : ∀ d, 34 < d → d < 38 → σ' d = σ d) : re_s σ' := by
  intro s hs
  obtain ⟨z, hz⟩ := H s hs
  refine ⟨z, ?_⟩
  unfold re_s1 at hz ⊢
  rw [h1 (25 + 2 * s) (by omega) (by omega), h1 (25 + 2 * s + 1) (by omega) (by omega), h2 35 (by omega) (by omega), h2 36 (by omega) (by omega), h2 37 (by omega) (by omega)]
  exact hz
/-- the trial is nobody's business -/
theorem re_P.X {σ σ' c : tl_St} {he : Nat → Int32} {fl : Bool} {N h u t C : Nat} (H : re_P σ c he fl N h u t C) (hf : ∀ d, d < 10 ∨ 18 < d → σ' d = σ d) : re_P σ' c he fl N h u t C := by
  obtain ⟨a, b, d, e⟩ := H
  refine ⟨a.cg (fun k _ => by rw [hf 1 (by omega)]) (fun d _ _ => hf d (by omega)) (fun k _ => by rw [hf 34 (by omega)]) (fun d _ _ => hf d (by omega)) (fun i _ => by rw [hf 43 (by omega)]), b.cg (fun k _ => by rw [hf 0 (by omega)]) (hf 33 (by omega)) (fun k _ => by rw [hf 34 (by omega)]) (hf 49 (by omega)), d.cg (by rw [hf 0 (by omega)]) (fun d _ _ => hf d (by omega)) (by rw [hf 34 (by omega)]) (hf 44 (by omega)) (hf 45 (by omega)), e.cg (fun d _ _ => hf d (by omega)) (fun d _ _ => hf d (by omega))⟩
theorem re_P.M {σ σ' c : tl_St} {he : Nat → Int32} {fl : Bool} {N h u t C : Nat} (H : re_P σ c he fl N h u t C) (hf : sp_KM σ σ') : re_P σ' c he fl N h u t C := by
  obtain ⟨a, b, d, e⟩ := H
  obtain ⟨f1, f2, f3⟩ := hf
  have g : ∀ d, d < 34 ∨ (34 < d ∧ d < 43) ∨ d = 44 ∨ d = 45 ∨ d = 49 → σ' d = σ d := fun d hd => f1 d (by omega) (by omega) (by omega) (by omega) (by omega)
  refine ⟨a.cg (fun k _ => by rw [g 1 (by omega)]) (fun d _ _ => g d (by omega)) (fun k hk => f3 k (by omega) (by omega) (by omega)) (fun d _ _ => g d (by omega)) (fun i hi => f2 i hi), b.cg (fun k _ => by rw [g 0 (by omega)]) (g 33 (by omega)) (fun k hk => f3 k (by omega) (by omega) (by omega)) (g 49 (by omega)), d.cg (by rw [g 0 (by omega)]) (fun d _ _ => g d (by omega)) (f3 14 (by omega) (by omega) (by omega)) (g 44 (by omega)) (g 45 (by omega)), e.cg (fun d _ _ => g d (by omega)) (fun d _ _ => g d (by omega))⟩
/-! ranges -/
theorem re_clt (x y : Int64) : lg_cmp x y < 0 ↔ x < y := by
  rw [← Int32.not_le, lg_cmp_ge, Int64.not_le]
theorem re_cgt (x y : Int64) : 0 < lg_cmp x y ↔ y < x := by
  rw [← Int32.not_le, lg_cmp_le, Int64.not_le]
theorem re_l64 (a b : Int32) : a.toInt64 < b.toInt64 ↔ a < b := by
  rw [Int64.lt_iff_toInt_lt, Int32.lt_iff_toInt_lt, Int32.toInt_toInt64, Int32.toInt_toInt64]
theorem re_in (σ : tl_St) (a lo hi : Int32) : fX4_in σ a.toInt64 lo.toInt64 hi.toInt64 = if a < lo then 0 else if hi < a then 0 else 1 := by
  unfold fX4_in
  simp only [tl_bnd, re_clt, re_cgt, re_l64]
theorem re_isBasinX {σ : tl_St} {N : Nat} (h : σ 1 2 = nI N) (hN : N ≤ 4) (a : Int32) : (fX3_isBasin σ a = 0 ∧ (a < 0 ∨ nI N ≤ a)) ∨ ∃ i, i < N ∧ a = nI i ∧ fX3_isBasin σ a = 1 := by
  unfold fX3_isBasin
  simp only [tl_bnd, h]
  rcases pk_ix a (n := N) (by omega) with h1 | h1 | ⟨i, hi, rfl⟩
  · exact Or.inl ⟨by rw [if_pos h1], Or.inl h1⟩
  · by_cases h2 : a < 0
    · exact Or.inl ⟨by rw [if_pos h2], Or.inl h2⟩
    · exact Or.inl ⟨by rw [if_neg h2, if_pos h1], Or.inr h1⟩
  · exact Or.inr ⟨i, hi, rfl, by rw [if_neg (nI_pos (by omega)), if_neg (sp_nge rfl hi (by omega))]⟩
theorem re_hi (n : Nat) (hn : n < 2 ^ 30) (a : Int32) (ha : ¬ a < 0) : nI n - 1 < a ↔ nI n ≤ a := by
  obtain ⟨j, hj, rfl⟩ := nI_of ha
  rw [sp_le (by omega) (by omega)]
  cases n with
  | zero =>
    have e : nI 0 - 1 = -1 := by decide
    rw [e]
    exact ⟨fun _ => Nat.zero_le _, fun _ => sp_m1lt (by omega)⟩
  | succ n =>
    rw [nI_pred, sp_lt (by omega) (by omega)]
    omega
theorem re_isBasin {σ : tl_St} {N : Nat} (h : σ 1 2 = nI N) (h2 : σ 34 7 = nI N) (hN : N ≤ 4) (a : Int32) : fX4_isBasin σ a = fX3_isBasin σ a := by
  unfold fX4_isBasin fX3_isBasin
  simp only [tl_bnd, h, h2]
  rw [show (0 : Int64) = (0 : Int32).toInt64 from by decide, re_in]
  by_cases h0 : a < 0
  · rw [if_pos h0, if_pos h0]
  · rw [if_neg h0, if_neg h0]
    simp only [re_hi N (by omega) a h0]
