/-! a turn in the ledger -/
def en_4 (f : Nat → Int32) (t : Nat) (a fi x o l : Int32) : Nat → Int32 := upd (upd (upd (upd (upd f (9 * t) a) (9 * t + 1) fi) (9 * t + 2) x) (9 * t + 3) o) (9 * t + 4) l
def en_g (f : Nat → Int32) (t : Nat) (mv : Nat → Int32) : Nat → Nat → Int32
  | 0 => f
  | i + 1 => upd (en_g f t mv i) (9 * t + 5 + i) (mv i)
def en_f (f : Nat → Int32) (t : Nat) (a : Int32) (c : tl_St) (N h : Nat) (fl : Bool) (he : Nat → Int32) : Nat → Int32 :=
  en_g (en_4 f t a (if fl then 0 else 1) (c 0 0 - sp_tO c N h fl he) (sp_tO c N h fl he) (sp_tL c N h fl he)) t (sp_S c fl N he h).2.2 4
theorem en_XL {t : Nat} {mv f : Nat → Int32} (ht : t < 60) (σ0 : tl_St) (k : tl_St → Option tl_St) : ∀ (n i : Nat) (σ : tl_St), i ≤ 4 → 4 - i < n → σ 33 = en_g f t mv i → (∀ d, d ≠ 33 → σ d = σ0 d) → (∀ j, j < 4 → σ0 (1 + 8) j = mv j) → ∃ σ', fX3_enterTurn_L88 (nI (9 * t)) k n σ (nI i) = k σ' ∧ σ' 33 = en_g f t mv 4 ∧ (∀ d, d ≠ 33 → σ' d = σ0 d) := by
  intro n
  induction n with
  | zero => intro i σ h1 h2; omega
  | succ n ih =>
    intro i σ h1 h2 h3 h4 h5
    rw [fX3_enterTurn_L88]
    by_cases hi : i = 4
    · subst hi
      rw [if_pos (by decide)]
      exact ⟨σ, rfl, h3, h4⟩
    · have hin : tl_in (nI i) 4 := sp_in (by omega) (by decide)
      have hcl : (nI i).toNatClampNeg = i := sp_cl (by omega)
      have e1 : nI (9 * t) + 5 + nI i = nI (9 * t + 5 + i) := by rw [show (5 : Int32) = nI 5 from rfl, nI_add, nI_add]
      have hin2 : tl_in (nI (9 * t + 5 + i)) 540 := sp_in (by omega) (by decide)
      have hcl2 : (nI (9 * t + 5 + i)).toNatClampNeg = 9 * t + 5 + i := sp_cl (by omega)
      rw [if_neg (sp_nge (m := 4) (k := 4) rfl (by omega) (by decide))]
      simp only [tl_be, e1, if_pos hin, if_pos hin2, hcl, hcl2]
      rw [← nI_succ]
      refine ih (i + 1) _ (by omega) (by omega) ?_ (fun d hd => ?_) h5
      · rw [sp_s, h3, h4 (1 + 8) (by decide), h5 i (by omega)]; rfl
      · rw [sp_n hd]; exact h4 d hd
theorem en_ML {t : Nat} {mv f : Nat → Int32} (ht : t < 60) (σ0 : tl_St) (k : tl_St → Option tl_St) : ∀ (n i : Nat) (σ : tl_St), i ≤ 4 → 4 - i < n → σ 49 = en_g f t mv i → (∀ d, d ≠ 49 → σ d = σ0 d) → (∀ j, j < 4 → σ0 47 j = mv j) → ∃ σ', fX4_does_L93 (nI (9 * t)) k n σ (nI i) = k σ' ∧ σ' 49 = en_g f t mv 4 ∧ (∀ d, d ≠ 49 → σ' d = σ0 d) := by
  intro n
  induction n with
  | zero => intro i σ h1 h2; omega
  | succ n ih =>
    intro i σ h1 h2 h3 h4 h5
    rw [fX4_does_L93]
    by_cases hi : i = 4
    · subst hi
      rw [if_pos (by decide)]
      exact ⟨σ, rfl, h3, h4⟩
    · have hin : tl_in (nI i) 4 := sp_in (by omega) (by decide)
      have hcl : (nI i).toNatClampNeg = i := sp_cl (by omega)
      have e1 : nI (9 * t) + 5 + nI i = nI (9 * t + 5 + i) := by rw [show (5 : Int32) = nI 5 from rfl, nI_add, nI_add]
      have hin2 : tl_in (nI (9 * t + 5 + i)) 540 := sp_in (by omega) (by decide)
      have hcl2 : (nI (9 * t + 5 + i)).toNatClampNeg = 9 * t + 5 + i := sp_cl (by omega)
      rw [if_neg (sp_nge (m := 4) (k := 4) rfl (by omega) (by decide))]
      simp only [tl_be, e1, if_pos hin, if_pos hin2, hcl, hcl2]
      rw [← nI_succ]
      refine ih (i + 1) _ (by omega) (by omega) ?_ (fun d hd => ?_) h5
      · rw [sp_s, h3, h4 47 (by decide), h5 i (by omega)]; rfl
      · rw [sp_n hd]; exact h4 d hd
/-- the class's turn, with its row -/
theorem en_X {σ c : tl_St} {he : Nat → Int32} {fl : Bool} {N h t : Nat} (a : Int32) (hC : sp_C c N h) (hH : sp_H c N he) (hX : sp_RX 1 σ c he N) (hXf : σ 1 1 = if fl then c 0 0 else 0) (h5 : σ 0 5 = nI t) (ht : t < 60) : ∃ σ', fX3_makeTurnFor σ a = some σ' ∧ sp_RX 1 σ' c (sp_tH c N h fl he) N ∧ σ' 1 1 = (if (!fl) then c 0 0 else 0) ∧ σ' 1 12 = sp_tO c N h fl he ∧ σ' 0 5 = nI (t + 1) ∧ σ' 33 = en_f (σ 33) t a c N h fl he ∧ σ' 0 6 = σ 0 6 + 1 ∧ σ' 0 7 = σ 0 7 + (if fl then 0 else sp_tO c N h fl he) ∧ σ' 0 8 = σ 0 8 + (if fl then sp_tO c N h fl he else 0) ∧ σ' 0 9 = σ 0 9 + sp_tL c N h fl he ∧ (∀ d, d ≠ 0 → d ≠ 1 → d ≠ 7 → d ≠ 8 → d ≠ 9 → d ≠ 33 → σ' d = σ d) ∧ (∀ k, 9 < k → σ' 0 k = σ 0 k) := by
  obtain ⟨σ3, z3, b1, b2, b3, b4, b5, b6, b7, b8⟩ := sp_makeTurn hC hH hX hXf
  have hc3 : ∀ d, d ≠ 1 → d ≠ 7 → d ≠ 8 → d ≠ 9 → σ3 d = σ d := fun d q1 q2 q3 q4 => b7 d q1 q2 q3 q4
  have e0 : σ3 0 = σ 0 := hc3 0 (by decide) (by decide) (by decide) (by decide)
  have e33 : σ3 33 = σ 33 := hc3 33 (by decide) (by decide) (by decide) (by decide)
  -- the totals
  obtain ⟨σ4, e4⟩ : ∃ z, z = tl_set σ3 0 (if fl then 8 else 7) (σ3 0 (if fl then 8 else 7) + σ3 1 12) := ⟨_, rfl⟩
  obtain ⟨σ7, e7⟩ : ∃ z, z = tl_set (tl_set σ4 0 9 (σ4 0 9 + σ4 1 13)) 0 6 ((tl_set σ4 0 9 (σ4 0 9 + σ4 1 13)) 0 6 + 1) := ⟨_, rfl⟩
  have d7 : ∀ d, d ≠ 0 → σ7 d = σ3 d := fun d q => by rw [e7, sp_n q, sp_n q, e4, sp_n q]
  have f6 : σ7 0 6 = σ 0 6 + 1 := by
    rw [e7, sp_ss, sp_sn (by decide), e4]
    cases fl
    · simp [tl_set, tl_setC, upd, e0]
    · simp [tl_set, tl_setC, upd, e0]
  have f9 : σ7 0 9 = σ 0 9 + sp_tL c N h fl he := by
    rw [e7, sp_sn (by decide), sp_ss, e4]
    cases fl
    · simp [tl_set, tl_setC, upd, e0, b4]
    · simp [tl_set, tl_setC, upd, e0, b4]
  have f7 : σ7 0 7 = σ 0 7 + (if fl then 0 else sp_tO c N h fl he) := by
    rw [e7, sp_sn (by decide), sp_sn (by decide), e4]
    cases fl
    · simp [tl_set, tl_setC, upd, e0, b3]
    · simp [tl_set, tl_setC, upd, e0]
  have f8 : σ7 0 8 = σ 0 8 + (if fl then sp_tO c N h fl he else 0) := by
    rw [e7, sp_sn (by decide), sp_sn (by decide), e4]
    cases fl
    · simp [tl_set, tl_setC, upd, e0]
    · simp [tl_set, tl_setC, upd, e0, b3]
  have fo : ∀ k, k ≠ 6 → k ≠ 7 → k ≠ 8 → k ≠ 9 → σ7 0 k = σ 0 k := by
    intro k q1 q2 q3 q4
    rw [e7, sp_sn q1, sp_sn q4, e4, sp_sn (by cases fl <;> simpa), e0]
  have f5 : σ7 0 5 = nI t := by rw [fo 5 (by decide) (by decide) (by decide) (by decide)]; exact h5
  -- the row
  have ex1 : σ7 0 5 * 9 = nI (9 * t) := by rw [f5, show (9 : Int32) = nI 9 from rfl, pk_mul]; congr 1; omega
  have i0 : tl_in (nI (9 * t)) 540 := sp_in (by omega) (by decide)
  have i1 : tl_in (nI (9 * t + 1)) 540 := sp_in (by omega) (by decide)
  have i2 : tl_in (nI (9 * t + 2)) 540 := sp_in (by omega) (by decide)
  have i3 : tl_in (nI (9 * t + 3)) 540 := sp_in (by omega) (by decide)
  have i4 : tl_in (nI (9 * t + 4)) 540 := sp_in (by omega) (by decide)
  have c0 : (nI (9 * t)).toNatClampNeg = 9 * t := sp_cl (by omega)
  have c1 : (nI (9 * t + 1)).toNatClampNeg = 9 * t + 1 := sp_cl (by omega)
  have c2 : (nI (9 * t + 2)).toNatClampNeg = 9 * t + 2 := sp_cl (by omega)
  have c3 : (nI (9 * t + 3)).toNatClampNeg = 9 * t + 3 := sp_cl (by omega)
  have c4 : (nI (9 * t + 4)).toNatClampNeg = 9 * t + 4 := sp_cl (by omega)
  have a1 : nI (9 * t) + 1 = nI (9 * t + 1) := nI_1 _
  have a2 : nI (9 * t) + 2 = nI (9 * t + 2) := nI_add _ 2
  have a3 : nI (9 * t) + 3 = nI (9 * t + 3) := nI_add _ 3
  have a4 : nI (9 * t) + 4 = nI (9 * t + 4) := nI_add _ 4
  obtain ⟨σ13, e13⟩ : ∃ z, z = tl_set (tl_set (tl_set (tl_set (tl_set σ7 33 (9 * t) a) 33 (9 * t + 1) (if fl then 0 else 1)) 33 (9 * t + 2) (c 0 0 - sp_tO c N h fl he)) 33 (9 * t + 3) (sp_tO c N h fl he)) 33 (9 * t + 4) (sp_tL c N h fl he) := ⟨_, rfl⟩
  have g33 : σ13 33 = en_4 (σ 33) t a (if fl then 0 else 1) (c 0 0 - sp_tO c N h fl he) (sp_tO c N h fl he) (sp_tL c N h fl he) := by
    rw [e13, sp_s, sp_s, sp_s, sp_s, sp_s, d7 33 (by decide), e33]; rfl
  have gd : ∀ d, d ≠ 33 → σ13 d = σ7 d := fun d q => by rw [e13, sp_n q, sp_n q, sp_n q, sp_n q, sp_n q]
  obtain ⟨σ14, z14, p1, p2⟩ := en_XL (f := en_4 (σ 33) t a (if fl then 0 else 1) (c 0 0 - sp_tO c N h fl he) (sp_tO c N h fl he) (sp_tL c N h fl he)) (mv := (sp_S c fl N he h).2.2) ht σ13 (fun σ14 => some (tl_set σ14 0 5 (σ14 0 5 + 1))) 1000 0 σ13 (by omega) (by omega) g33 (fun _ _ => rfl) (fun j hj => by rw [gd (1 + 8) (by decide), d7 (1 + 8) (by decide)]; exact b5 j hj)
  rw [nI_0] at z14
  have k1 : σ7 1 0 = c 0 0 := by rw [d7 1 (by decide)]; exact b1.1
  have k12 : σ7 1 12 = sp_tO c N h fl he := by rw [d7 1 (by decide)]; exact b3
  have k13 : σ7 1 13 = sp_tL c N h fl he := by rw [d7 1 (by decide)]; exact b4
  have hent : fX3_enterTurn σ7 a (if fl then 0 else 1) = some (tl_set σ14 0 5 (σ14 0 5 + 1)) := by
    unfold fX3_enterTurn
    simp only [tl_be, ex1, if_pos i0, a1, a2, a3, a4, if_pos i1, if_pos i2, if_pos i3, if_pos i4, c0, c1, c2, c3, c4]
    have s1 : ∀ (σ9 : tl_St) (k : Nat) (v : Int32), tl_set σ9 33 k v 1 = σ9 1 := fun σ9 k v => sp_n (by decide)
    simp only [s1, k1, k12, k13]
    rw [← z14, e13]
    cases fl
    · simp
    · simp
  refine ⟨tl_set σ14 0 5 (σ14 0 5 + 1), ?_, ?_, ?_, ?_, ?_, ?_, ?_, ?_, ?_, ?_, fun d q0 q1 q2 q3 q4 q5 => ?_, fun k hk => ?_⟩
  · unfold fX3_makeTurnFor
    simp only [tl_be, z3, tl_oe]
    have hlt : ¬ 60 ≤ nI t := sp_nge (m := 60) (k := 60) rfl ht (by decide)
    rw [hXf]
    cases fl
    · have e : tl_set (tl_set (tl_set σ3 0 7 (σ3 0 7 + σ3 1 12)) 0 9 ((tl_set σ3 0 7 (σ3 0 7 + σ3 1 12)) 0 9 + (tl_set σ3 0 7 (σ3 0 7 + σ3 1 12)) 1 13)) 0 6 ((tl_set (tl_set σ3 0 7 (σ3 0 7 + σ3 1 12)) 0 9 ((tl_set σ3 0 7 (σ3 0 7 + σ3 1 12)) 0 9 + (tl_set σ3 0 7 (σ3 0 7 + σ3 1 12)) 1 13)) 0 6 + 1) = σ7 := by rw [e7, e4]; rfl
      simp only [Bool.false_eq_true, if_false, if_true, if_neg re_10]
      rw [e, f5, if_neg hlt]
      have hent : fX3_enterTurn σ7 a 1 = some (tl_set σ14 0 5 (σ14 0 5 + 1)) := hent
      rw [hent, tl_oe]
    · have e : tl_set (tl_set (tl_set σ3 0 8 (σ3 0 8 + σ3 1 12)) 0 9 ((tl_set σ3 0 8 (σ3 0 8 + σ3 1 12)) 0 9 + (tl_set σ3 0 8 (σ3 0 8 + σ3 1 12)) 1 13)) 0 6 ((tl_set (tl_set σ3 0 8 (σ3 0 8 + σ3 1 12)) 0 9 ((tl_set σ3 0 8 (σ3 0 8 + σ3 1 12)) 0 9 + (tl_set σ3 0 8 (σ3 0 8 + σ3 1 12)) 1 13)) 0 6 + 1) = σ7 := by rw [e7, e4]; rfl
      have h0 : ¬ c 0 0 = 0 := by rw [hC.1]; exact nI_ne0 (by have := hC.2.1; omega) (by have := hC.2.2.1; omega)
      simp only [if_true, if_neg h0]
      rw [e, f5, if_neg hlt]
      have hent : fX3_enterTurn σ7 a 0 = some (tl_set σ14 0 5 (σ14 0 5 + 1)) := hent
      rw [hent, tl_oe]
  · refine b1.cg (fun d q1 q2 => ?_)
    rw [sp_n (by omega), p2 d (by omega), gd d (by omega), d7 d (by omega)]
  · rw [sp_n (by decide), p2 1 (by decide), gd 1 (by decide), d7 1 (by decide)]; exact b2
  · rw [sp_n (by decide), p2 1 (by decide), gd 1 (by decide)]; exact k12
  · rw [sp_ss, p2 0 (by decide), gd 0 (by decide), f5, nI_1]
  · rw [sp_n (by decide), p1]; rfl
  · rw [sp_sn (by decide), p2 0 (by decide), gd 0 (by decide)]; exact f6
  · rw [sp_sn (by decide), p2 0 (by decide), gd 0 (by decide)]; exact f7
  · rw [sp_sn (by decide), p2 0 (by decide), gd 0 (by decide)]; exact f8
  · rw [sp_sn (by decide), p2 0 (by decide), gd 0 (by decide)]; exact f9
  · rw [sp_n q0, p2 d q5, gd d q5, d7 d q0, hc3 d q1 q2 q3 q4]
  · rw [sp_sn (by omega), p2 0 (by decide), gd 0 (by decide), fo k (by omega) (by omega) (by omega) (by omega)]

