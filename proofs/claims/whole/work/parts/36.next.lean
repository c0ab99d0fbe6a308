/-! which one is next -/
def bo_first (P : Nat → Prop) [DecidablePred P] : Nat → Nat → Int32
  | 0, _ => -1
  | m + 1, s => if P s then nI s else bo_first P m (s + 1)
theorem bo_first_cases (P : Nat → Prop) [DecidablePred P] : ∀ m s : Nat, bo_first P m s = -1 ∨ ∃ b, s ≤ b ∧ b < s + m ∧ bo_first P m s = nI b
  | 0, _ => Or.inl rfl
  | m + 1, s => by
    rw [bo_first]
    by_cases h : P s
    · rw [if_pos h]; exact Or.inr ⟨s, by omega, by omega, rfl⟩
    · rw [if_neg h]
      rcases bo_first_cases P m (s + 1) with e | ⟨b, h1, h2, h3⟩
      · exact Or.inl e
      · exact Or.inr ⟨b, by omega, by omega, h3⟩
theorem bo_first_cg {P Q : Nat → Prop} [DecidablePred P] [DecidablePred Q] : ∀ m s : Nat, (∀ b, s ≤ b → b < s + m → (P b ↔ Q b)) → bo_first P m s = bo_first Q m s
  | 0, _, _ => rfl
  | m + 1, s, h => by
    rw [bo_first, bo_first, bo_first_cg m (s + 1) (fun b h1 h2 => h b (by omega) (by omega))]
    by_cases hp : P s
    · rw [if_pos hp, if_pos ((h s (by omega) (by omega)).mp hp)]
    · rw [if_neg hp, if_neg (fun q => hp ((h s (by omega) (by omega)).mpr q))]
def bo_comb (a b : Int32) : Int32 := if a = -1 then b else if b = -1 then a else if b ≤ a then b else a
theorem bo_first_or {W P Q : Nat → Prop} [DecidablePred W] [DecidablePred P] [DecidablePred Q] : ∀ m s : Nat, s + m < 2 ^ 31 → (∀ b, s ≤ b → b < s + m → (W b ↔ P b ∨ Q b)) → (∀ b, s ≤ b → b < s + m → ¬ (P b ∧ Q b)) → bo_first W m s = bo_comb (bo_first P m s) (bo_first Q m s)
  | 0, _, _, _, _ => rfl
  | m + 1, s, hs, h, hd => by
    have ih := bo_first_or m (s + 1) (by omega) (fun b h1 h2 => h b (by omega) (by omega)) (fun b h1 h2 => hd b (by omega) (by omega))
    have hw := h s (by omega) (by omega)
    have hx := hd s (by omega) (by omega)
    rw [bo_first, bo_first, bo_first, ih]
    by_cases hp : P s
    · have hq : ¬ Q s := fun q => hx ⟨hp, q⟩
      rw [if_pos (hw.mpr (Or.inl hp)), if_pos hp, if_neg hq]
      unfold bo_comb
      rw [if_neg (sp_ne1 (by omega))]
      rcases bo_first_cases Q m (s + 1) with e | ⟨b, h1, h2, e⟩
      · rw [if_pos e]
      · rw [e, if_neg (sp_ne1 (by omega)), if_neg (sp_nge rfl (by omega) (by omega))]
    · by_cases hq : Q s
      · rw [if_pos (hw.mpr (Or.inr hq)), if_neg hp, if_pos hq]
        unfold bo_comb
        rcases bo_first_cases P m (s + 1) with e | ⟨b, h1, h2, e⟩
        · rw [if_pos e]
        · rw [e, if_neg (sp_ne1 (by omega)), if_neg (sp_ne1 (by omega)), if_pos (sp_ge rfl (by omega) (by omega))]
      · rw [if_neg (fun z => (hw.mp z).elim hp hq), if_neg hp, if_neg hq]
def bo_hd : List Nat → Int32
  | [] => -1
  | b :: _ => nI b
theorem bo_at0 (l : List Nat) (hl : l.length < 2 ^ 31) : bo_at l 0 = bo_hd l := by
  cases l with
  | nil => exact bo_at_nil 0
  | cons b l =>
    unfold bo_at
    rw [if_neg (by decide), if_neg (nI_nle (by simp) (by simpa using hl))]
    rfl
theorem bo_head (P : Nat → Prop) [DecidablePred P] : ∀ m s : Nat, bo_hd ((List.range' s m).filter (fun b => decide (P b))) = bo_first P m s
  | 0, _ => rfl
  | m + 1, s => by
    rw [bo_first, List.range'_succ, List.filter_cons]
    by_cases h : P s
    · rw [if_pos h, if_pos (by simpa using h)]; rfl
    · rw [if_neg h, if_neg (by simpa using h)]
      exact bo_head P m (s + 1)
theorem bo_qhead (σ : tl_St) (w C : Nat) (hC : C ≤ 100) : bo_at (re_q σ w C) 0 = bo_first (re_wt σ w) C 0 := by
  rw [bo_at0 _ (by have := bo_len σ w C; omega), ← bo_head]
  unfold re_q
  rw [List.range_eq_range']
abbrev bo_W (σ : tl_St) (b : Nat) : Prop := ¬ σ 45 b = 0
abbrev bo_S (σ : tl_St) (b : Nat) : Prop := ¬ σ 45 b = 0 ∧ ¬ fX4_isSide σ (σ 44 b) = 0
theorem bo_next_L {σ : tl_St} {C : Nat} (hC : C ≤ 100) (k4 : Int32 → Int32 → Option Int32) : ∀ n j : Nat, j ≤ C → j < n → fX4_nextBoat_L11 σ k4 n (bo_first (bo_W σ) (C - j) j) (bo_first (bo_S σ) (C - j) j) (nI j - 1) = k4 (bo_first (bo_W σ) C 0) (bo_first (bo_S σ) C 0) := by
  intro n
  induction n with
  | zero => intro j h1 h2; omega
  | succ n ih =>
    intro j h1 h2
    rw [fX4_nextBoat_L11]
    cases j with
    | zero => rw [if_pos (by decide)]; rfl
    | succ k =>
      have hin : tl_in (nI k) 100 := sp_in (by omega) (by decide)
      have hcl : (nI k).toNatClampNeg = k := sp_cl (by omega)
      have ih' := ih k (by omega) (by omega)
      rw [show C - k = (C - (k + 1)) + 1 by omega, bo_first, bo_first] at ih'
      rw [nI_pred, if_neg (nI_pos (by omega))]
      simp only [tl_be, if_pos hin, hcl]
      rw [show nI k + -1 = nI k - 1 by rw [Int32.sub_eq_add_neg]]
      by_cases h4 : σ 45 k = 0
      · rw [if_neg (fun z => z h4), if_neg (fun z => z.1 h4)] at ih'
        rw [if_pos h4, if_pos h4]; exact ih'
      · by_cases h5 : fX4_isSide σ (σ 44 k) = 0
        · rw [if_pos h4, if_neg (fun z => z.2 h5)] at ih'
          rw [if_neg h4, if_neg h4, if_pos h5]; exact ih'
        · rw [if_pos h4, if_pos ⟨h4, h5⟩] at ih'
          rw [if_neg h4, if_neg h4, if_neg h5]; exact ih'
def bo_ws (fl : Bool) : Nat := if fl then 0 else 1
theorem bo_side {σ : tl_St} {fl : Bool} {w : Nat} (hf : σ 34 6 = sp_f fl) (hw : w < 2) : fX4_isSide σ (nI w) = if w = bo_ws fl then 1 else 0 := by
  unfold fX4_isSide
  simp only [tl_be, hf]
  rcases (show w = 0 ∨ w = 1 by omega) with rfl | rfl <;> cases fl <;> rfl
theorem bo_nextBoat {σ : tl_St} {fl : Bool} {C : Nat} (Hb : re_b σ C) (hf : σ 34 6 = sp_f fl) : fX4_nextBoat σ = some (if σ 34 17 = 1 ∧ ¬ bo_at (re_q σ (bo_ws fl) C) 0 = -1 then bo_at (re_q σ (bo_ws fl) C) 0 else bo_comb (bo_at (re_q σ 0 C) 0) (bo_at (re_q σ 1 C) 0)) := by
  obtain ⟨b1, b2, b3, b4, b5⟩ := id Hb
  have h0 := bo_next_L (σ := σ) b3 (fun x2 x3 => if σ 34 17 = 1 then if x3 = -1 then some x2 else some x3 else some x2) 1000 C (Nat.le_refl C) (by omega)
  rw [Nat.sub_self, bo_first, bo_first] at h0
  have eW : bo_first (bo_W σ) C 0 = bo_comb (bo_at (re_q σ 0 C) 0) (bo_at (re_q σ 1 C) 0) := by
    rw [bo_qhead σ 0 C b3, bo_qhead σ 1 C b3]
    refine bo_first_or C 0 (by omega) (fun b _ hb => ⟨fun hw => ?_, fun hw => ?_⟩) (fun b _ hb hx => ?_)
    · rcases b4 b (by omega) with e | e
      · exact Or.inl ⟨hw, e⟩
      · exact Or.inr ⟨hw, e⟩
    · rcases hw with hw | hw
      · exact hw.1
      · exact hw.1
    · exact absurd (hx.1.2.symm.trans hx.2.2) (by decide)
  have eS : bo_first (bo_S σ) C 0 = bo_at (re_q σ (bo_ws fl) C) 0 := by
    rw [bo_qhead σ _ C b3]
    refine bo_first_cg C 0 (fun b _ hb => ?_)
    unfold bo_S re_wt
    have key : ∀ v, v < 2 → σ 44 b = nI v → (¬ fX4_isSide σ (σ 44 b) = 0 ↔ σ 44 b = nI (bo_ws fl)) := by
      intro v hv e
      rw [e, bo_side hf hv]
      have hws : bo_ws fl < 2 := by cases fl <;> decide
      by_cases hvw : v = bo_ws fl
      · rw [if_pos hvw, ← hvw]; simp
      · rw [if_neg hvw]
        constructor
        · intro q; exact absurd rfl q
        · intro q; exact absurd ((nI_eq (by omega) (by omega)).mp q) hvw
    have k2 : ¬ fX4_isSide σ (σ 44 b) = 0 ↔ σ 44 b = nI (bo_ws fl) := by
      rcases b4 b (by omega) with e | e
      · exact key 0 (by omega) e
      · exact key 1 (by omega) e
    rw [k2]
  rw [eW, eS] at h0
  unfold fX4_nextBoat
  simp only [tl_be, b2]
  rw [h0]
  by_cases h1 : σ 34 17 = 1
  · rw [if_pos h1]
    by_cases h2 : bo_at (re_q σ (bo_ws fl) C) 0 = -1
    · rw [if_pos h2, if_neg (fun z => z.2 h2)]
    · rw [if_neg h2, if_pos ⟨h1, h2⟩]
  · rw [if_neg h1, if_neg (fun z => h1 z.1)]
theorem bo_cons {σ : tl_St} {w C : Nat} (hC : C ≤ 100) (h : ¬ bo_at (re_q σ w C) 0 = -1) : ∃ b, (re_q σ w C)[0]? = some b ∧ b < C ∧ re_wt σ w b ∧ bo_at (re_q σ w C) 0 = nI b := by
  have e := bo_at0 (re_q σ w C) (by have := bo_len σ w C; omega)
  cases hl : re_q σ w C with
  | nil => rw [hl] at h; exact absurd (bo_at_nil 0) h
  | cons b l =>
    rw [hl] at e
    have hm : b ∈ re_q σ w C := by rw [hl]; exact List.mem_cons_self
    exact ⟨b, by simp, (bo_mem.mp hm).1, (bo_mem.mp hm).2, e⟩
/-- the next one: none on both sides, or the first of a way -/
theorem bo_next {σ c : tl_St} {he : Nat → Int32} {fl : Bool} {N h u t C : Nat} (H : re_P σ c he fl N h u t C) : (fX3_wayServedNext σ = some (-1) ∧ fX4_nextBoat σ = some (-1)) ∨ ∃ w b, w < 2 ∧ (re_q σ w C)[0]? = some b ∧ b < C ∧ re_wt σ w b ∧ bo_at (re_q σ w C) 0 = nI b ∧ fX3_wayServedNext σ = some (nI w) ∧ fX4_nextBoat σ = some (nI b) := by
  obtain ⟨⟨hC, hH, hu, hcu, hX, hXf, hM, hMf⟩, Hl, Hb, Hs⟩ := id H
  obtain ⟨b1, b2, b3, b4, b5⟩ := id Hb
  have r0 := bo_boatAt Hb (w := 0) (by omega) 0
  have r1 := bo_boatAt Hb (w := 1) (by omega) 0
  simp only [Nat.mul_zero, Nat.add_zero, Nat.mul_one, Nat.reduceAdd] at r0 r1
  have hm := bo_nextBoat Hb hMf
  have hl9 := Hl.2.2.2.2.2.2.2.2.1
  have hat : fX3_wayAtChamber σ = nI (bo_ws fl) := by
    unfold fX3_wayAtChamber
    rw [hXf]
    have := re_x0 (fl := fl) hC
    cases fl with
    | false => rw [if_pos (this.mpr rfl)]; rfl
    | true => rw [if_neg (fun z => absurd (this.mp z) (by decide))]; rfl
  have hx : fX3_wayServedNext σ = (if bo_at (re_q σ 0 C) 0 = -1 then if bo_at (re_q σ 1 C) 0 = -1 then some (-1) else some 1 else if bo_at (re_q σ 1 C) 0 = -1 then some 0 else if σ 34 17 = 1 then some (nI (bo_ws fl)) else if bo_at (re_q σ 1 C) 0 ≤ bo_at (re_q σ 0 C) 0 then some 1 else some 0) := by
    unfold fX3_wayServedNext
    rw [r0, tl_oe, r1, tl_oe, hl9, tl_be, hat]
  rw [hx, hm]
  unfold bo_comb
  by_cases q0 : bo_at (re_q σ 0 C) 0 = -1
  · by_cases q1 : bo_at (re_q σ 1 C) 0 = -1
    · left
      rw [if_pos q0, if_pos q1]
      refine ⟨rfl, ?_⟩
      have hs : bo_at (re_q σ (bo_ws fl) C) 0 = -1 := by cases fl; exact q1; exact q0
      rw [if_neg (fun z => z.2 hs), if_pos q0, q1]
    · right
      obtain ⟨b, k1, k2, k3, k4⟩ := bo_cons b3 q1
      refine ⟨1, b, by omega, k1, k2, k3, k4, ?_, ?_⟩
      · rw [if_pos q0, if_neg q1]; rfl
      · rw [if_pos q0, ← k4]
        cases fl with
        | false =>
          by_cases hz : σ 34 17 = 1 ∧ ¬ bo_at (re_q σ (bo_ws false) C) 0 = -1
          · rw [if_pos hz]; rfl
          · rw [if_neg hz]
        | true => rw [if_neg (fun z => z.2 q0)]
  · obtain ⟨b, k1, k2, k3, k4⟩ := bo_cons b3 q0
    by_cases q1 : bo_at (re_q σ 1 C) 0 = -1
    · right
      refine ⟨0, b, by omega, k1, k2, k3, k4, ?_, ?_⟩
      · rw [if_neg q0, if_pos q1]; rfl
      · rw [if_neg q0, if_pos q1, ← k4]
        cases fl with
        | false => rw [if_neg (fun z => z.2 q1)]
        | true =>
          by_cases hz : σ 34 17 = 1 ∧ ¬ bo_at (re_q σ (bo_ws true) C) 0 = -1
          · rw [if_pos hz]; rfl
          · rw [if_neg hz]
    · obtain ⟨d, j1, j2, j3, j4⟩ := bo_cons b3 q1
      right
      by_cases hr : σ 34 17 = 1
      · cases fl with
        | false =>
          refine ⟨1, d, by omega, j1, j2, j3, j4, ?_, ?_⟩
          · rw [if_neg q0, if_neg q1, if_pos hr]; rfl
          · rw [if_pos ⟨hr, q1⟩, ← j4]; rfl
        | true =>
          refine ⟨0, b, by omega, k1, k2, k3, k4, ?_, ?_⟩
          · rw [if_neg q0, if_neg q1, if_pos hr]; rfl
          · rw [if_pos ⟨hr, q0⟩, ← k4]; rfl
      · by_cases hle : bo_at (re_q σ 1 C) 0 ≤ bo_at (re_q σ 0 C) 0
        · refine ⟨1, d, by omega, j1, j2, j3, j4, ?_, ?_⟩
          · rw [if_neg q0, if_neg q1, if_neg hr, if_pos hle]; rfl
          · rw [if_neg (fun z => hr z.1), if_neg q0, if_neg q1, if_pos hle, j4]
        · refine ⟨0, b, by omega, k1, k2, k3, k4, ?_, ?_⟩
          · rw [if_neg q0, if_neg q1, if_neg hr, if_neg hle]; rfl
          · rw [if_neg (fun z => hr z.1), if_neg q0, if_neg q1, if_neg hle, k4]
theorem bo_turnsX {σ c : tl_St} {he : Nat → Int32} {fl : Bool} {N h u t C w : Nat} (H : re_P σ c he fl N h u t C) (hw : w < 2) : fX3_turnsToServe σ (nI w) = if w = bo_ws fl then 1 else 2 := by
  obtain ⟨⟨hC, hH, hu, hcu, hX, hXf, hM, hMf⟩, Hl, Hb, Hs⟩ := id H
  unfold fX3_turnsToServe fX3_wayAtChamber
  rw [tl_be, hXf]
  have := re_x0 (fl := fl) hC
  cases fl with
  | false =>
    rw [if_pos (this.mpr rfl)]
    rcases (show w = 0 ∨ w = 1 by omega) with rfl | rfl <;> rfl
  | true =>
    rw [if_neg (fun z => absurd (this.mp z) (by decide))]
    rcases (show w = 0 ∨ w = 1 by omega) with rfl | rfl <;> rfl
theorem bo_nextBy1 {σ : tl_St} {fl : Bool} {w b C : Nat} (hC : C ≤ 100) (hb : b < C) (hw : w < 2) (e : σ 44 b = nI w) (hf : σ 34 6 = sp_f fl) (hn : fX4_nextBoat σ = some (nI b)) : fX4_nextBy σ 1 = some (if w = bo_ws fl then 1 else 2) := by
  have hin : tl_in (nI b) 100 := sp_in (by omega) (by decide)
  have hcl : (nI b).toNatClampNeg = b := sp_cl (by omega)
  unfold fX4_nextBy
  rw [hn, tl_oe, if_neg re_10, if_neg (sp_ne1 (by omega))]
  simp only [if_pos hin, hcl, e, tl_be, bo_side hf hw]
  by_cases hx : w = bo_ws fl
  · rw [if_pos hx, if_neg re_10, if_pos hx]
  · rw [if_neg hx, if_pos rfl, if_neg hx]
theorem re_nextJ {σ c : tl_St} {he : Nat → Int32} {fl : Bool} {N h u t C : Nat} (H : re_P σ c he fl N h u t C) {a : Int32} (ha : a = 0 ∨ a = 1) : ∃ r, fX3_next σ a = some r ∧ fX4_nextBy σ a = some r := by
  obtain ⟨⟨hC, hH, hu, hcu, hX, hXf, hM, hMf⟩, Hl, Hb, Hs⟩ := id H
  have hC100 := Hb.2.2.1
  have hx : fX3_next σ a = tl_o1 (fX3_wayServedNext σ) fun r2 => if r2 = -1 then if a = 0 then some (-1) else some 0 else if a = 0 then if tl_in r2 2 then tl_o1 (fX0_boatAt σ (20 + 2 * r2.toNatClampNeg) 0) fun r8 => some r8 else none else some (fX3_turnsToServe σ r2) := by
    unfold fX3_next
    simp only [tl_be]
    rcases ha with rfl | rfl <;> rfl
  rcases bo_next H with ⟨h1, h2⟩ | ⟨w, b, hw, k1, k2, k3, k4, h1, h2⟩
  · rw [hx, h1, tl_oe, if_pos rfl]
    unfold fX4_nextBy
    rw [h2, tl_oe]
    rcases ha with rfl | rfl
    · exact ⟨-1, rfl, rfl⟩
    · exact ⟨0, rfl, rfl⟩
  · have hin : tl_in (nI w) 2 := sp_in (by omega) (by decide)
    have hcl : (nI w).toNatClampNeg = w := sp_cl (by omega)
    rw [hx, h1, tl_oe, if_neg (sp_ne1 (by omega))]
    rcases ha with rfl | rfl
    · refine ⟨nI b, ?_, ?_⟩
      · simp only [if_true, if_pos hin, hcl, bo_boatAt Hb hw, tl_oe, k4]
      · unfold fX4_nextBy
        rw [h2, tl_oe, if_pos rfl]
    · refine ⟨if w = bo_ws fl then 1 else 2, ?_, bo_nextBy1 hC100 k2 hw k3.2 hMf h2⟩
      rw [if_neg re_10, bo_turnsX H hw]
theorem re_next {σ : tl_St} (H : re_R σ) (a : Int32) : ∃ r, fX3_next σ a = some r ∧ fX4_next σ a = some r := by
  obtain ⟨c, he, fl, N, h, u, t, C, H⟩ := H
  obtain ⟨⟨hC, hH, hu, hcu, hX, hXf, hM, hMf⟩, Hl, Hb, Hs⟩ := id H
  have HR : re_R σ := ⟨c, he, fl, N, h, u, t, C, H⟩
  have hN := hC.2.2.2.1
  by_cases ha : a = 0 ∨ a = 1
  · obtain ⟨r, z1, z2⟩ := re_nextJ H ha
    refine ⟨r, z1, ?_⟩
    unfold fX4_next
    rw [tl_be, re_two]
    rcases ha with rfl | rfl
    · rw [if_pos rfl, if_neg re_10, z2, tl_oe]
    · rw [if_neg re_10, if_pos rfl, if_neg re_10, z2, tl_oe]
  · have e0 : ¬ a = 0 := fun e => ha (Or.inl e)
    have e1 : ¬ a = 1 := fun e => ha (Or.inr e)
    refine ⟨-2, ?_, ?_⟩
    · unfold fX3_next; simp only [tl_be, if_neg e0, if_neg e1]
    · unfold fX4_next; simp only [tl_be, re_two, if_neg e0, if_neg e1, if_true]

