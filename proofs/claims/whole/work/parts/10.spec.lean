/-! naming undone, by an equation that is no definitional one (so that no one unfolds a loop's fuel) -/
theorem tl_be {α β : Type} (x : α) (f : α → β) : tl_bnd x f = f x := id rfl
theorem tl_oe {α β : Type} (a : α) (f : α → Option β) : tl_o1 (some a) f = f a := id rfl
theorem tl_oe2 {α γ β : Type} (a : α) (b : γ) (f : α → γ → Option β) : tl_o2 (some (a, b)) f = f a b := id rfl
theorem tl_be2 {α γ β : Type} (a : α) (b : γ) (f : α → γ → β) : tl_b2 (a, b) f = f a b := id rfl
/-! reading the state -/
theorem sp_s {σ : tl_St} {c k : Nat} {v : Int32} : tl_set σ c k v c = upd (σ c) k v := by simp [tl_set, tl_setC]
theorem sp_n {σ : tl_St} {c d k : Nat} {v : Int32} (h : d ≠ c) : tl_set σ c k v d = σ d := by simp [tl_set, tl_setC, h]
theorem sp_ss {σ : tl_St} {c k : Nat} {v : Int32} : tl_set σ c k v c k = v := by simp [tl_set, tl_setC, upd]
theorem sp_sn {σ : tl_St} {c k j : Nat} {v : Int32} (h : j ≠ k) : tl_set σ c k v c j = σ c j := by simp [tl_set, tl_setC, upd, h]
theorem sp_cs {σ : tl_St} {c : Nat} {f : Nat → Int32} : tl_setC σ c f c = f := by simp [tl_setC]
theorem sp_cn {σ : tl_St} {c d : Nat} {f : Nat → Int32} (h : d ≠ c) : tl_setC σ c f d = σ d := by simp [tl_setC, h]
/-! small numbers -/
theorem sp_in {i n : Nat} (h : i < n) (hn : n < 2 ^ 31) : tl_in (nI i) n := vp_in_nI h hn
theorem sp_cl {i : Nat} (h : i < 2 ^ 31) : (nI i).toNatClampNeg = i := nI_clamp h
theorem sp_bit (x : Int32) : x &&& 1 = 0 ∨ x &&& 1 = 1 := by
  obtain ⟨j, hj, e⟩ := pk_andE x (m := 1) 1 (by decide)
  rcases (show j = 0 ∨ j = 1 by omega) with rfl | rfl
  · exact Or.inl e
  · exact Or.inr e
theorem sp_bit1 (x : Int32) : x &&& 1 = 1 ↔ ¬ x &&& 1 = 0 := by
  rcases sp_bit x with h | h <;> simp [h]
theorem sp_lt {a b : Nat} (ha : a < 2 ^ 31) (hb : b < 2 ^ 31) : nI a < nI b ↔ a < b := nI_ltI ha hb
theorem sp_le {a b : Nat} (ha : a < 2 ^ 31) (hb : b < 2 ^ 31) : nI a ≤ nI b ↔ a ≤ b := nI_leI ha hb
theorem sp_not_le {x y : Int32} : ¬ x ≤ y ↔ y < x := Int32.not_le
theorem sp_not_lt {x y : Int32} : ¬ x < y ↔ y ≤ x := Int32.not_lt
/-! the water, as a number for each thing: row 0 holds the head and which are out; rows 1 to 4 bottom, room, wide, leak -/
abbrev sp_use (c : tl_St) (i : Nat) : Prop := ((c 0 2 >>> (nI i &&& 31)) &&& 1) = 0
def sp_lev (c : tl_St) (i : Nat) (s : Int32) : Int32 := 6 * c 1 i + s * 6 / c 3 i
abbrev sp_mT (c : tl_St) (he : Nat → Int32) (ch : Int32) (i : Nat) : Prop := sp_use c i ∧ he i < c 2 i ∧ sp_lev c i (he i + 1) ≤ 6 * ch
abbrev sp_mG (c : tl_St) (he : Nat → Int32) (ch : Int32) (i : Nat) : Prop := sp_use c i ∧ 0 < he i ∧ 6 * ch ≤ sp_lev c i (he i - 1)
def sp_T (c : tl_St) (he : Nat → Int32) (ch : Int32) : Nat → Int32 × Int32
  | 0 => (-1, -1)
  | i + 1 => if sp_mT c he ch i ∧ (sp_T c he ch i).2 < sp_lev c i (he i + 1) then (nI i, sp_lev c i (he i + 1)) else sp_T c he ch i
def sp_G (c : tl_St) (he : Nat → Int32) (ch : Int32) : Nat → Int32 × Int32
  | 0 => (-1, 999999)
  | i + 1 => if sp_mG c he ch i ∧ sp_lev c i (he i - 1) < (sp_G c he ch i).2 then (nI i, sp_lev c i (he i - 1)) else sp_G c he ch i
def sp_b (c : tl_St) (he : Nat → Int32) (fl : Bool) (N k : Nat) : Int32 := if fl then (sp_T c he (c 0 0 - 1 - nI k) N).1 else (sp_G c he (nI k + 1) N).1
def sp_S1 (fl : Bool) (q : (Nat → Int32) × Int32 × (Nat → Int32)) (b : Int32) : (Nat → Int32) × Int32 × (Nat → Int32) :=
  if b = -1 then (q.1, q.2.1 + 1, q.2.2) else (upd q.1 b.toNatClampNeg (q.1 b.toNatClampNeg + (if fl then 1 else -1)), q.2.1, upd q.2.2 b.toNatClampNeg (q.2.2 b.toNatClampNeg + 1))
def sp_S (c : tl_St) (fl : Bool) (N : Nat) (he : Nat → Int32) : Nat → (Nat → Int32) × Int32 × (Nat → Int32)
  | 0 => (he, 0, fun _ => 0)
  | k + 1 => sp_S1 fl (sp_S c fl N he k) (sp_b c (sp_S c fl N he k).1 fl N k)
def sp_min (x y : Int32) : Int32 := if y ≤ x then y else x
def sp_L (c : tl_St) (he : Nat → Int32) : Nat → (Nat → Int32) × Int32
  | 0 => (he, 0)
  | i + 1 => (upd (sp_L c he i).1 i ((sp_L c he i).1 i - sp_min (c 4 i) ((sp_L c he i).1 i)), (sp_L c he i).2 + sp_min (c 4 i) ((sp_L c he i).1 i))
/-- a turn: what is held behind it; how much went outside; what leaked -/
def sp_tH (c : tl_St) (N h : Nat) (fl : Bool) (he : Nat → Int32) : Nat → Int32 := (sp_L c (sp_S c fl N he h).1 N).1
def sp_tO (c : tl_St) (N h : Nat) (fl : Bool) (he : Nat → Int32) : Int32 := (sp_S c fl N he h).2.1
def sp_tL (c : tl_St) (N h : Nat) (fl : Bool) (he : Nat → Int32) : Int32 := (sp_L c (sp_S c fl N he h).1 N).2
def sp_A (c : tl_St) (N h : Nat) (fl : Bool) (he : Nat → Int32) : Nat → Bool × (Nat → Int32) × Int32
  | 0 => (fl, he, 0)
  | k + 1 => (!(sp_A c N h fl he k).1, sp_tH c N h (sp_A c N h fl he k).1 (sp_A c N h fl he k).2.1, (sp_A c N h fl he k).2.2 + (if (sp_A c N h fl he k).1 then 0 else sp_tO c N h (sp_A c N h fl he k).1 (sp_A c N h fl he k).2.1))
/-! what may be: the constants of the water, and what is held -/
def sp_C (c : tl_St) (N h : Nat) : Prop := c 0 0 = nI h ∧ 1 ≤ h ∧ h ≤ 60 ∧ N ≤ 4 ∧ ∀ i, i < N → (∃ b, b < 60 ∧ c 1 i = nI b) ∧ (∃ r, r ≤ 60 ∧ c 2 i = nI r) ∧ (∃ w, (w = 1 ∨ w = 2 ∨ w = 3) ∧ c 3 i = nI w) ∧ (∃ l, l ≤ 3 ∧ c 4 i = nI l)
def sp_H (c : tl_St) (N : Nat) (he : Nat → Int32) : Prop := ∀ i, i < N → ∃ r q, r ≤ 60 ∧ c 2 i = nI r ∧ he i = nI q ∧ q ≤ r
/-- the level of a basin that holds q slices -/
theorem sp_lev_eq {c : tl_St} {N h i : Nat} (hC : sp_C c N h) (hi : i < N) {q : Nat} (hq : q ≤ 61) : ∃ v, v ≤ 1000 ∧ sp_lev c i (nI q) = nI v := by
  obtain ⟨⟨b, hb, eb⟩, -, ⟨w, hw, ew⟩, -⟩ := hC.2.2.2.2 i hi
  have h6 : (6 : Int32) = nI 6 := rfl
  unfold sp_lev
  rw [eb, ew, h6, pk_mul, pk_mul, pk_div (by omega) (by omega) (by omega), nI_add]
  refine ⟨_, ?_, rfl⟩
  rcases hw with rfl | rfl | rfl <;> omega
def sp_rise (w : Int32) : Int32 := if w = 1 then 6 else if w = 2 then 3 else 2
theorem sp_lev_x {c : tl_St} {N h i : Nat} (hC : sp_C c N h) (hi : i < N) {q : Nat} (hq : q ≤ 61) : 6 * c 1 i + sp_rise (c 3 i) * nI q = sp_lev c i (nI q) := by
  obtain ⟨-, -, ⟨w, hw, ew⟩, -⟩ := hC.2.2.2.2 i hi
  have h6 : (6 : Int32) = nI 6 := rfl
  unfold sp_lev
  congr 1
  rw [ew]
  have e2 : nI q * 6 / nI w = nI (q * 6 / w) := by
    rw [h6, pk_mul, pk_div (by omega) (by omega) (by omega)]
  rw [e2]
  rcases hw with rfl | rfl | rfl
  · rw [show sp_rise (nI 1) = nI 6 from by decide, pk_mul]; congr 1; omega
  · rw [show sp_rise (nI 2) = nI 3 from by decide, pk_mul]; congr 1; omega
  · rw [show sp_rise (nI 3) = nI 2 from by decide, pk_mul]; congr 1; omega
theorem sp_wide0 {c : tl_St} {N h i : Nat} (hC : sp_C c N h) (hi : i < N) : ¬ c 3 i = 0 := by
  obtain ⟨-, -, ⟨w, hw, ew⟩, -⟩ := hC.2.2.2.2 i hi
  rw [ew]
  rcases hw with rfl | rfl | rfl <;> decide
