theorem sp_drawn_L {w : Nat} {σ0 c : tl_St} {he : Nat → Int32} {fl : Bool} {N h T : Nat} {cap : Int32} (hC : sp_C c N h) (hH : sp_H c N he) (hT : T < 1000) (k3 : tl_St → Int32 → Option (Int32 × tl_St)) : ∀ (n j : Nat) (σ : tl_St), j ≤ T → T - j < n → sp_RX w σ c (sp_A c N h fl he j).2.1 N → σ w 1 = (if (sp_A c N h fl he j).1 then c 0 0 else 0) → (∀ d, d < w ∨ w + 8 < d → σ d = σ0 d) → ∃ j' σ', j' ≤ T ∧ fX2_drawnBy_L5 w (nI T) cap k3 n σ (sp_A c N h fl he j).2.2 (nI j) = k3 σ' (sp_A c N h fl he j').2.2 ∧ (j' = T ∨ cap ≤ (sp_A c N h fl he j').2.2) ∧ (∀ d, d < w ∨ w + 8 < d → σ' d = σ0 d) := by
  obtain ⟨hc0, hh1, hh6, hN, hcs⟩ := id hC
  intro n
  induction n with
  | zero => intro j σ h1 h2; omega
  | succ n ih =>
    intro j σ h1 h2 hR hf h3
    rw [fX2_drawnBy_L5]
    by_cases hj : j = T
    · subst hj
      rw [if_pos ((sp_le (by omega) (by omega)).mpr (Nat.le_refl _))]
      exact ⟨j, σ, Nat.le_refl _, rfl, Or.inl rfl, h3⟩
    · rw [if_neg (fun q => absurd ((sp_le (by omega) (by omega)).mp q) (by omega))]
      by_cases hcap : cap ≤ (sp_A c N h fl he j).2.2
      · rw [if_pos hcap]
        exact ⟨j, σ, h1, rfl, Or.inr hcap, h3⟩
      · rw [if_neg hcap]
        obtain ⟨σ2, z2, b1, b2, b3, b4, b5, b6, b7, b8⟩ := sp_makeTurn hC (sp_A_H hC hH j) hR hf
        simp only [tl_be, z2, tl_oe]
        have ih' := ih (j + 1) σ2 (by omega) (by omega) b1 b2 (fun d hd => (b7 d (by omega) (by omega) (by omega) (by omega)).trans (h3 d hd))
        have hA : (sp_A c N h fl he (j + 1)).2.2 = (sp_A c N h fl he j).2.2 + (if (sp_A c N h fl he j).1 then 0 else sp_tO c N h (sp_A c N h fl he j).1 (sp_A c N h fl he j).2.1) := rfl
        rw [hA, nI_succ] at ih'
        rw [hf, b3]
        have h0 : ¬ nI h = 0 := nI_ne0 (by omega) (by omega)
        cases hq : (sp_A c N h fl he j).1 with
        | true => rw [hq] at ih'; simpa [hc0, h0] using ih'
        | false => rw [hq] at ih'; simpa using ih'
theorem sp_drawn {w : Nat} {σ c : tl_St} {he : Nat → Int32} {fl : Bool} {N h T : Nat} (cap : Int32) (hC : sp_C c N h) (hH : sp_H c N he) (hT : T < 1000) (hR : sp_RX w σ c he N) (hf : σ w 1 = if fl then c 0 0 else 0) : ∃ r σ', fX2_drawnBy σ w (nI T) cap = some (r, σ') ∧ (∀ d, d < w ∨ w + 8 < d → σ' d = σ d) ∧ ((sp_A c N h fl he T).2.2 < cap → r = (sp_A c N h fl he T).2.2) ∧ (cap ≤ (sp_A c N h fl he T).2.2 → cap ≤ r) := by
  obtain ⟨j', σ', hj, z, h1, h2⟩ := sp_drawn_L (σ0 := σ) (cap := cap) (fl := fl) hC hH hT (fun σ1 x2 => some (x2, σ1)) 1000 0 σ (by omega) (by omega) hR hf (fun _ _ => rfl)
  rw [nI_0] at z
  have e0 : (sp_A c N h fl he 0).2.2 = 0 := rfl
  rw [e0] at z
  have hm : (sp_A c N h fl he j').2.2 ≤ (sp_A c N h fl he T).2.2 := by
    have := sp_A_mono (c := c) (N := N) (fl := fl) (he := he) hC.2.2.1 (i := j') (T - j') (by omega)
    rwa [show j' + (T - j') = T by omega] at this
  refine ⟨(sp_A c N h fl he j').2.2, σ', ?_, h2, fun h3 => ?_, fun h3 => ?_⟩
  · unfold fX2_drawnBy
    simp only [tl_be]
    exact z
  · rcases h1 with rfl | h1
    · rfl
    · exact (Int32.lt_irrefl (Int32.lt_of_lt_of_le h3 (Int32.le_trans h1 hm))).elim
  · rcases h1 with rfl | h1
    · exact h3
    · exact h1
/-! a choice and what is drawn by it, in one int -/
theorem sp_or (a b : Nat) : nI a ||| nI b = nI (a ||| b) := by
  apply Int32.toBitVec_inj.mp
  show BitVec.ofNat 32 a ||| BitVec.ofNat 32 b = BitVec.ofNat 32 (a ||| b)
  simp [BitVec.ofNat_or]
theorem sp_pack {d j : Nat} (hd : d ≤ 10000) (hj : j < 64) : ((nI d <<< (6 &&& 31)) ||| nI j) = nI (d * 64 + j) := by
  rw [pk_shlN (6 &&& 31) 6 (by decide) (by omega), sp_or]
  congr 1
  have := Nat.two_pow_add_eq_or_of_lt (i := 6) (b := j) (by omega) d
  rw [Nat.mul_comm d, ← this]
theorem sp_part0 {d j : Nat} (hd : d ≤ 10000) (hj : j < 64) (σ : tl_St) : fX3_partOfChoice σ ((nI d <<< (6 &&& 31)) ||| nI j) 0 = nI j := by
  unfold fX3_partOfChoice
  rw [sp_pack hd hj, if_neg (sp_ne1 (by omega)), if_pos rfl, pk_andN (by omega) 6 (by decide)]
  congr 1; omega
theorem sp_part1 {d j : Nat} (hd : d ≤ 10000) (hj : j < 64) (σ : tl_St) : fX3_partOfChoice σ ((nI d <<< (6 &&& 31)) ||| nI j) 1 = nI d := by
  unfold fX3_partOfChoice
  rw [sp_pack hd hj, if_neg (sp_ne1 (by omega)), if_neg (by decide), pk_shrN (by omega) (6 &&& 31) 6 (by decide)]
  congr 1; omega
/-! the best of some, the first of like ones -/
def sp_B (u : Nat → Prop) [DecidablePred u] (f : Nat → Int32) : Nat → Int32 × Int32
  | 0 => (-1, 999999)
  | b + 1 => if u b ∧ f b < (sp_B u f b).2 then (nI b, f b) else sp_B u f b
theorem sp_B_cases (u : Nat → Prop) [DecidablePred u] (f : Nat → Int32) : ∀ b : Nat, sp_B u f b = (-1, 999999) ∨ ∃ j, j < b ∧ u j ∧ sp_B u f b = (nI j, f j)
  | 0 => Or.inl rfl
  | b + 1 => by
    rw [sp_B]
    by_cases h : u b ∧ f b < (sp_B u f b).2
    · rw [if_pos h]; exact Or.inr ⟨b, by omega, h.1, rfl⟩
    · rw [if_neg h]
      rcases sp_B_cases u f b with h1 | ⟨j, h1, h2, h3⟩
      · exact Or.inl h1
      · exact Or.inr ⟨j, by omega, h2, h3⟩
/-- the class's pair of numbers beside the reference's -/
def sp_ch (q : Int32 × Int32) (x5 x6 : Int32) : Prop := (q = (-1, 999999) ∧ x5 = -1 ∧ x6 = 1000000) ∨ (∃ j d, j < 64 ∧ d ≤ 10000 ∧ q = (nI j, nI d) ∧ x5 = ((nI d <<< (6 &&& 31)) ||| nI j) ∧ x6 = nI d)
theorem sp_ch_part {q : Int32 × Int32} {x5 x6 : Int32} (h : sp_ch q x5 x6) (σ : tl_St) : fX3_partOfChoice σ x5 0 = q.1 ∧ fX3_partOfChoice σ x5 1 = (if q.1 = -1 then -1 else q.2) := by
  rcases h with ⟨rfl, rfl, -⟩ | ⟨j, d, hj, hd, rfl, rfl, -⟩
  · exact ⟨rfl, rfl⟩
  · refine ⟨sp_part0 hd hj σ, ?_⟩
    rw [sp_part1 hd hj σ, if_neg (sp_ne1 (by omega))]
/-- one more candidate: drawn with the cap x6 it is r -/
theorem sp_ch_step {u : Nat → Prop} [DecidablePred u] {f : Nat → Int32} {b d : Nat} {x5 x6 r : Int32} (h : sp_ch (sp_B u f b) x5 x6) (hb : b < 64) (hd : d ≤ 10000) (hf : f b = nI d) (hu : u b) (h1 : nI d < x6 → r = nI d) (h2 : x6 ≤ nI d → x6 ≤ r) : (x6 ≤ r ∧ sp_ch (sp_B u f (b + 1)) x5 x6) ∨ (¬ x6 ≤ r ∧ sp_ch (sp_B u f (b + 1)) ((r <<< (6 &&& 31)) ||| nI b) r) := by
  rcases h with ⟨hq, rfl, rfl⟩ | ⟨j, d', hj, hd', hq, rfl, rfl⟩
  · have hlt : nI d < 1000000 := (sp_lt (b := 1000000) (by omega) (by omega)).mpr (by omega)
    have hr := h1 hlt
    subst hr
    refine Or.inr ⟨Int32.not_le.mpr hlt, ?_⟩
    have e : sp_B u f (b + 1) = (nI b, nI d) := by
      rw [sp_B, hq, if_pos ⟨hu, by rw [hf]; exact (sp_lt (b := 999999) (by omega) (by omega)).mpr (by omega)⟩, hf]
    rw [e]
    exact Or.inr ⟨b, d, hb, hd, rfl, rfl, rfl⟩
  · by_cases hlt : nI d < nI d'
    · have hr := h1 hlt
      subst hr
      refine Or.inr ⟨Int32.not_le.mpr hlt, ?_⟩
      have e : sp_B u f (b + 1) = (nI b, nI d) := by
        rw [sp_B, hq, if_pos ⟨hu, by rw [hf]; exact hlt⟩, hf]
      rw [e]
      exact Or.inr ⟨b, d, hb, hd, rfl, rfl, rfl⟩
    · refine Or.inl ⟨h2 (Int32.not_lt.mp hlt), ?_⟩
      have e : sp_B u f (b + 1) = (nI j, nI d') := by
        rw [sp_B, hq, if_neg (fun z => hlt (by rw [hf] at z; exact z.2))]
      rw [e]
      exact Or.inr ⟨j, d', hj, hd', rfl, rfl, rfl⟩
theorem sp_B_skip {u : Nat → Prop} [DecidablePred u] {f : Nat → Int32} {b : Nat} (hu : ¬ u b) : sp_B u f (b + 1) = sp_B u f b := by
  rw [sp_B, if_neg (fun z => hu z.1)]
