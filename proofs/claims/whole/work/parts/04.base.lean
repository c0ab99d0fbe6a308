/-! the pure state: cell by cell, slot by slot; naming and joining of values -/
abbrev tl_St : Type := Nat → Nat → Int32
def tl_setC (σ : tl_St) (c : Nat) (f : Nat → Int32) : tl_St := fun d => if d = c then f else σ d
def tl_set (σ : tl_St) (c k : Nat) (v : Int32) : tl_St := tl_setC σ c (upd (σ c) k v)
def tl_bnd {α β : Type} (x : α) (f : α → β) : β := f x
def tl_o1 {α β : Type} (x : Option α) (f : α → Option β) : Option β := match x with
  | none => none
  | some a => f a
def tl_o2 {α γ β : Type} (x : Option (α × γ)) (f : α → γ → Option β) : Option β := match x with
  | none => none
  | some q => f q.1 q.2
theorem tl_nm {α β : Type} {e : α} {f : α → β} {o : β} (h : tl_bnd e f = o) : ∃ x, e = x ∧ f x = o := ⟨e, rfl, h⟩
theorem tl_o1s {α β : Type} {x : Option α} {f : α → Option β} {o : β} (h : tl_o1 x f = some o) : ∃ a, x = some a ∧ f a = some o := by
  cases x with
  | none => cases h
  | some a => exact ⟨a, rfl, h⟩
theorem tl_o2s {α γ β : Type} {x : Option (α × γ)} {f : α → γ → Option β} {o : β} (h : tl_o2 x f = some o) : ∃ a c, x = some (a, c) ∧ f a c = some o := by
  cases x with
  | none => cases h
  | some a => exact ⟨a.1, a.2, rfl, h⟩
theorem tl_gd {β : Type} {c : Prop} [Decidable c] {x : Option β} {o : β} (h : (if c then x else none) = some o) : c ∧ x = some o := by
  by_cases hc : c
  · exact ⟨hc, (if_pos hc).symm.trans h⟩
  · have := (if_neg hc).symm.trans h
    cases this
theorem tl_j0 {β : Type} {K : β} {g : β → β} {o : β} (h : tl_bnd K g = o) : ∃ k : β, K = k ∧ g k = o := ⟨K, rfl, h⟩
theorem tl_j1 {A1 β γ : Type} {K : A1 → β} {g : (A1 → β) → γ} {o : γ} (h : tl_bnd K g = o) : ∃ k : A1 → β, (∀ x1, K x1 = k x1) ∧ g k = o := ⟨K, fun _ => rfl, h⟩
theorem tl_j2 {A1 A2 β γ : Type} {K : A1 → A2 → β} {g : (A1 → A2 → β) → γ} {o : γ} (h : tl_bnd K g = o) : ∃ k : A1 → A2 → β, (∀ x1 x2, K x1 x2 = k x1 x2) ∧ g k = o := ⟨K, fun _ _ => rfl, h⟩
theorem tl_j3 {A1 A2 A3 β γ : Type} {K : A1 → A2 → A3 → β} {g : (A1 → A2 → A3 → β) → γ} {o : γ} (h : tl_bnd K g = o) : ∃ k : A1 → A2 → A3 → β, (∀ x1 x2 x3, K x1 x2 x3 = k x1 x2 x3) ∧ g k = o := ⟨K, fun _ _ _ => rfl, h⟩
theorem tl_j4 {A1 A2 A3 A4 β γ : Type} {K : A1 → A2 → A3 → A4 → β} {g : (A1 → A2 → A3 → A4 → β) → γ} {o : γ} (h : tl_bnd K g = o) : ∃ k : A1 → A2 → A3 → A4 → β, (∀ x1 x2 x3 x4, K x1 x2 x3 x4 = k x1 x2 x3 x4) ∧ g k = o := ⟨K, fun _ _ _ _ => rfl, h⟩
theorem tl_j5 {A1 A2 A3 A4 A5 β γ : Type} {K : A1 → A2 → A3 → A4 → A5 → β} {g : (A1 → A2 → A3 → A4 → A5 → β) → γ} {o : γ} (h : tl_bnd K g = o) : ∃ k : A1 → A2 → A3 → A4 → A5 → β, (∀ x1 x2 x3 x4 x5, K x1 x2 x3 x4 x5 = k x1 x2 x3 x4 x5) ∧ g k = o := ⟨K, fun _ _ _ _ _ => rfl, h⟩
theorem tl_j6 {A1 A2 A3 A4 A5 A6 β γ : Type} {K : A1 → A2 → A3 → A4 → A5 → A6 → β} {g : (A1 → A2 → A3 → A4 → A5 → A6 → β) → γ} {o : γ} (h : tl_bnd K g = o) : ∃ k : A1 → A2 → A3 → A4 → A5 → A6 → β, (∀ x1 x2 x3 x4 x5 x6, K x1 x2 x3 x4 x5 x6 = k x1 x2 x3 x4 x5 x6) ∧ g k = o := ⟨K, fun _ _ _ _ _ _ => rfl, h⟩
theorem tl_j7 {A1 A2 A3 A4 A5 A6 A7 β γ : Type} {K : A1 → A2 → A3 → A4 → A5 → A6 → A7 → β} {g : (A1 → A2 → A3 → A4 → A5 → A6 → A7 → β) → γ} {o : γ} (h : tl_bnd K g = o) : ∃ k : A1 → A2 → A3 → A4 → A5 → A6 → A7 → β, (∀ x1 x2 x3 x4 x5 x6 x7, K x1 x2 x3 x4 x5 x6 x7 = k x1 x2 x3 x4 x5 x6 x7) ∧ g k = o := ⟨K, fun _ _ _ _ _ _ _ => rfl, h⟩
theorem tl_j8 {A1 A2 A3 A4 A5 A6 A7 A8 β γ : Type} {K : A1 → A2 → A3 → A4 → A5 → A6 → A7 → A8 → β} {g : (A1 → A2 → A3 → A4 → A5 → A6 → A7 → A8 → β) → γ} {o : γ} (h : tl_bnd K g = o) : ∃ k : A1 → A2 → A3 → A4 → A5 → A6 → A7 → A8 → β, (∀ x1 x2 x3 x4 x5 x6 x7 x8, K x1 x2 x3 x4 x5 x6 x7 x8 = k x1 x2 x3 x4 x5 x6 x7 x8) ∧ g k = o := ⟨K, fun _ _ _ _ _ _ _ _ => rfl, h⟩
theorem tl_j9 {A1 A2 A3 A4 A5 A6 A7 A8 A9 β γ : Type} {K : A1 → A2 → A3 → A4 → A5 → A6 → A7 → A8 → A9 → β} {g : (A1 → A2 → A3 → A4 → A5 → A6 → A7 → A8 → A9 → β) → γ} {o : γ} (h : tl_bnd K g = o) : ∃ k : A1 → A2 → A3 → A4 → A5 → A6 → A7 → A8 → A9 → β, (∀ x1 x2 x3 x4 x5 x6 x7 x8 x9, K x1 x2 x3 x4 x5 x6 x7 x8 x9 = k x1 x2 x3 x4 x5 x6 x7 x8 x9) ∧ g k = o := ⟨K, fun _ _ _ _ _ _ _ _ _ => rfl, h⟩
theorem tl_j10 {A1 A2 A3 A4 A5 A6 A7 A8 A9 A10 β γ : Type} {K : A1 → A2 → A3 → A4 → A5 → A6 → A7 → A8 → A9 → A10 → β} {g : (A1 → A2 → A3 → A4 → A5 → A6 → A7 → A8 → A9 → A10 → β) → γ} {o : γ} (h : tl_bnd K g = o) : ∃ k : A1 → A2 → A3 → A4 → A5 → A6 → A7 → A8 → A9 → A10 → β, (∀ x1 x2 x3 x4 x5 x6 x7 x8 x9 x10, K x1 x2 x3 x4 x5 x6 x7 x8 x9 x10 = k x1 x2 x3 x4 x5 x6 x7 x8 x9 x10) ∧ g k = o := ⟨K, fun _ _ _ _ _ _ _ _ _ _ => rfl, h⟩
theorem tl_j11 {A1 A2 A3 A4 A5 A6 A7 A8 A9 A10 A11 β γ : Type} {K : A1 → A2 → A3 → A4 → A5 → A6 → A7 → A8 → A9 → A10 → A11 → β} {g : (A1 → A2 → A3 → A4 → A5 → A6 → A7 → A8 → A9 → A10 → A11 → β) → γ} {o : γ} (h : tl_bnd K g = o) : ∃ k : A1 → A2 → A3 → A4 → A5 → A6 → A7 → A8 → A9 → A10 → A11 → β, (∀ x1 x2 x3 x4 x5 x6 x7 x8 x9 x10 x11, K x1 x2 x3 x4 x5 x6 x7 x8 x9 x10 x11 = k x1 x2 x3 x4 x5 x6 x7 x8 x9 x10 x11) ∧ g k = o := ⟨K, fun _ _ _ _ _ _ _ _ _ _ _ => rfl, h⟩
theorem tl_j12 {A1 A2 A3 A4 A5 A6 A7 A8 A9 A10 A11 A12 β γ : Type} {K : A1 → A2 → A3 → A4 → A5 → A6 → A7 → A8 → A9 → A10 → A11 → A12 → β} {g : (A1 → A2 → A3 → A4 → A5 → A6 → A7 → A8 → A9 → A10 → A11 → A12 → β) → γ} {o : γ} (h : tl_bnd K g = o) : ∃ k : A1 → A2 → A3 → A4 → A5 → A6 → A7 → A8 → A9 → A10 → A11 → A12 → β, (∀ x1 x2 x3 x4 x5 x6 x7 x8 x9 x10 x11 x12, K x1 x2 x3 x4 x5 x6 x7 x8 x9 x10 x11 x12 = k x1 x2 x3 x4 x5 x6 x7 x8 x9 x10 x11 x12) ∧ g k = o := ⟨K, fun _ _ _ _ _ _ _ _ _ _ _ _ => rfl, h⟩
/-! the world: the cells of both objects, at addresses 'tl_ad g c' -/
abbrev tl_G : Type := va_G × ClassId × ClassId × ClassId × ClassId × (Nat → Nat)
def tl_ad (g : tl_G) : Nat → Nat := g.2.2.2.2.2
def tl_tys (g : tl_G) : List (ClassId × FieldType) := [(g.2.1, .int), (g.2.2.1, .boolean), (g.2.2.2.1, .object RX0), (g.2.2.2.2.1, .object RX1)]
def tl_W (g : tl_G) (σ : tl_St) : va_W := [
  (tl_ad g 0, .inr (3, [.ref (tl_ad g 1), .ref (tl_ad g 10), .ref (tl_ad g 19), .ref (tl_ad g 24), .ref (tl_ad g 33), .int (σ 0 5), .int (σ 0 6), .int (σ 0 7), .int (σ 0 8), .int (σ 0 9), .int (σ 0 10), .int (σ 0 11), .int (σ 0 12)])),
  (tl_ad g 1, .inr (2, [.int (σ 1 0), .int (σ 1 1), .int (σ 1 2), .int (σ 1 3), .ref (tl_ad g 2), .ref (tl_ad g 3), .ref (tl_ad g 4), .ref (tl_ad g 5), .ref (tl_ad g 6), .ref (tl_ad g 7), .ref (tl_ad g 8), .ref (tl_ad g 9), .int (σ 1 12), .int (σ 1 13)])),
  (tl_ad g 2, .inl (g.2.1, 4, .inl (σ 2))),
  (tl_ad g 3, .inl (g.2.1, 4, .inl (σ 3))),
  (tl_ad g 4, .inl (g.2.1, 4, .inl (σ 4))),
  (tl_ad g 5, .inl (g.2.1, 4, .inl (σ 5))),
  (tl_ad g 6, .inl (g.2.1, 4, .inl (σ 6))),
  (tl_ad g 7, .inl (g.2.1, 4, .inl (σ 7))),
  (tl_ad g 8, .inl (g.2.1, 60, .inl (σ 8))),
  (tl_ad g 9, .inl (g.2.1, 4, .inl (σ 9))),
  (tl_ad g 10, .inr (2, [.int (σ 10 0), .int (σ 10 1), .int (σ 10 2), .int (σ 10 3), .ref (tl_ad g 11), .ref (tl_ad g 12), .ref (tl_ad g 13), .ref (tl_ad g 14), .ref (tl_ad g 15), .ref (tl_ad g 16), .ref (tl_ad g 17), .ref (tl_ad g 18), .int (σ 10 12), .int (σ 10 13)])),
  (tl_ad g 11, .inl (g.2.1, 4, .inl (σ 11))),
  (tl_ad g 12, .inl (g.2.1, 4, .inl (σ 12))),
  (tl_ad g 13, .inl (g.2.1, 4, .inl (σ 13))),
  (tl_ad g 14, .inl (g.2.1, 4, .inl (σ 14))),
  (tl_ad g 15, .inl (g.2.1, 4, .inl (σ 15))),
  (tl_ad g 16, .inl (g.2.1, 4, .inl (σ 16))),
  (tl_ad g 17, .inl (g.2.1, 60, .inl (σ 17))),
  (tl_ad g 18, .inl (g.2.1, 4, .inl (σ 18))),
  (tl_ad g 19, .inl (g.2.2.2.1, 2, .inr (.inr (.inr (.inr (fun j => some (tl_ad g (20 + 2 * j)))))))),
  (tl_ad g 20, .inr (0, [.ref (tl_ad g 21), .int (σ 20 1)])),
  (tl_ad g 21, .inl (g.2.1, 16, .inl (σ 21))),
  (tl_ad g 22, .inr (0, [.ref (tl_ad g 23), .int (σ 22 1)])),
  (tl_ad g 23, .inl (g.2.1, 16, .inl (σ 23))),
  (tl_ad g 24, .inl (g.2.2.2.2.1, 4, .inr (.inr (.inr (.inr (fun j => some (tl_ad g (25 + 2 * j)))))))),
  (tl_ad g 25, .inr (1, [.int (σ 25 0), .int (σ 25 1), .int (σ 25 2), .ref (tl_ad g 26)])),
  (tl_ad g 26, .inl (g.2.1, 60, .inl (σ 26))),
  (tl_ad g 27, .inr (1, [.int (σ 27 0), .int (σ 27 1), .int (σ 27 2), .ref (tl_ad g 28)])),
  (tl_ad g 28, .inl (g.2.1, 60, .inl (σ 28))),
  (tl_ad g 29, .inr (1, [.int (σ 29 0), .int (σ 29 1), .int (σ 29 2), .ref (tl_ad g 30)])),
  (tl_ad g 30, .inl (g.2.1, 60, .inl (σ 30))),
  (tl_ad g 31, .inr (1, [.int (σ 31 0), .int (σ 31 1), .int (σ 31 2), .ref (tl_ad g 32)])),
  (tl_ad g 32, .inl (g.2.1, 60, .inl (σ 32))),
  (tl_ad g 33, .inl (g.2.1, 540, .inl (σ 33))),
  (tl_ad g 34, .inr (4, [.ref (tl_ad g 35), .ref (tl_ad g 36), .ref (tl_ad g 37), .ref (tl_ad g 38), .int (σ 34 4), .int (σ 34 5), .int (σ 34 6), .int (σ 34 7), .ref (tl_ad g 39), .ref (tl_ad g 40), .ref (tl_ad g 41), .ref (tl_ad g 42), .ref (tl_ad g 43), .int (σ 34 13), .int (σ 34 14), .ref (tl_ad g 44), .ref (tl_ad g 45), .int (σ 34 17), .ref (tl_ad g 46), .ref (tl_ad g 47), .int (σ 34 20), .int (σ 34 21), .ref (tl_ad g 48), .int (σ 34 23), .ref (tl_ad g 49), .int (σ 34 25), .int (σ 34 26), .int (σ 34 27), .int (σ 34 28), .int (σ 34 29)])),
  (tl_ad g 35, .inl (g.2.1, 4, .inl (σ 35))),
  (tl_ad g 36, .inl (g.2.1, 4, .inl (σ 36))),
  (tl_ad g 37, .inl (g.2.1, 240, .inl (σ 37))),
  (tl_ad g 38, .inl (g.2.1, 60, .inl (σ 38))),
  (tl_ad g 39, .inl (g.2.1, 4, .inl (σ 39))),
  (tl_ad g 40, .inl (g.2.1, 4, .inl (σ 40))),
  (tl_ad g 41, .inl (g.2.1, 4, .inl (σ 41))),
  (tl_ad g 42, .inl (g.2.1, 4, .inl (σ 42))),
  (tl_ad g 43, .inl (g.2.1, 4, .inl (σ 43))),
  (tl_ad g 44, .inl (g.2.1, 100, .inl (σ 44))),
  (tl_ad g 45, .inl (g.2.2.1, 100, .inl (σ 45))),
  (tl_ad g 46, .inl (g.2.1, 60, .inl (σ 46))),
  (tl_ad g 47, .inl (g.2.1, 4, .inl (σ 47))),
  (tl_ad g 48, .inl (g.2.1, 4, .inl (σ 48))),
  (tl_ad g 49, .inl (g.2.1, 540, .inl (σ 49)))]
def tl_I (g : tl_G) : Prop := ∀ i j : Nat, i < 50 → j < 50 → tl_ad g i = tl_ad g j → i = j
def tl_A (g : tl_G) : Nat → Prop := fun q => ∃ c : Nat, c < 50 ∧ q = tl_ad g c
theorem tl_adr {g : tl_G} {σ : tl_St} {k : Nat} {q : Nat × va_E} (h : (tl_W g σ)[k]? = some q) : k < 50 ∧ q.1 = tl_ad g k := by
  have e : (tl_W g σ).map Prod.fst = (List.range 50).map (tl_ad g) := rfl
  have h1 : ((tl_W g σ).map Prod.fst)[k]? = some q.1 := by rw [List.getElem?_map, h]; rfl
  rw [e, List.getElem?_map] at h1
  have hk : k < 50 := by
    have := (List.getElem?_eq_some_iff.mp h).1
    exact this
  rw [List.getElem?_range hk] at h1
  exact ⟨hk, (Option.some.inj h1).symm⟩
theorem tl_D {g : tl_G} (hI : tl_I g) (σ : tl_St) : va_D (tl_A g) (tl_W g σ) :=
  ⟨fun i j p q hi hj e => hI i j (tl_adr hi).1 (tl_adr hj).1 ((tl_adr hi).2.symm.trans (e.trans (tl_adr hj).2)), fun k q hk => ⟨k, (tl_adr hk).1, (tl_adr hk).2⟩⟩
def tl_isW (w : Nat) : Prop := w = 1 ∨ w = 10
def tl_isQ (q : Nat) : Prop := q = 20 ∨ q = 22
def tl_isS (s : Nat) : Prop := s = 25 ∨ s = 27 ∨ s = 29 ∨ s = 31
theorem tl_W1 : tl_isW 1 := Or.inl rfl
theorem tl_W10 : tl_isW 10 := Or.inr rfl
theorem tl_qOf {i : Int32} (h : vp_in i 2) : tl_isQ (20 + 2 * i.toNatClampNeg) := by
  have : i.toNatClampNeg < 2 := Nat.not_le.mp fun q => h (Or.inr q)
  unfold tl_isQ; omega
theorem tl_sOf {i : Int32} (h : vp_in i 4) : tl_isS (25 + 2 * i.toNatClampNeg) := by
  have : i.toNatClampNeg < 4 := Nat.not_le.mp fun q => h (Or.inr q)
  unfold tl_isS; omega
theorem tl_k0 (g : tl_G) (σ : tl_St) : (tl_W g σ)[0]? = some (tl_ad g 0, .inr (3, [.ref (tl_ad g 1), .ref (tl_ad g 10), .ref (tl_ad g 19), .ref (tl_ad g 24), .ref (tl_ad g 33), .int (σ 0 5), .int (σ 0 6), .int (σ 0 7), .int (σ 0 8), .int (σ 0 9), .int (σ 0 10), .int (σ 0 11), .int (σ 0 12)])) := rfl
theorem tl_kM (g : tl_G) (σ : tl_St) : (tl_W g σ)[34]? = some (tl_ad g 34, .inr (4, [.ref (tl_ad g 35), .ref (tl_ad g 36), .ref (tl_ad g 37), .ref (tl_ad g 38), .int (σ 34 4), .int (σ 34 5), .int (σ 34 6), .int (σ 34 7), .ref (tl_ad g 39), .ref (tl_ad g 40), .ref (tl_ad g 41), .ref (tl_ad g 42), .ref (tl_ad g 43), .int (σ 34 13), .int (σ 34 14), .ref (tl_ad g 44), .ref (tl_ad g 45), .int (σ 34 17), .ref (tl_ad g 46), .ref (tl_ad g 47), .int (σ 34 20), .int (σ 34 21), .ref (tl_ad g 48), .int (σ 34 23), .ref (tl_ad g 49), .int (σ 34 25), .int (σ 34 26), .int (σ 34 27), .int (σ 34 28), .int (σ 34 29)])) := rfl
theorem tl_kW {w : Nat} (h : tl_isW w) (g : tl_G) (σ : tl_St) : (tl_W g σ)[w]? = some (tl_ad g w, .inr (2, [.int (σ w 0), .int (σ w 1), .int (σ w 2), .int (σ w 3), .ref (tl_ad g (w + 1)), .ref (tl_ad g (w + 2)), .ref (tl_ad g (w + 3)), .ref (tl_ad g (w + 4)), .ref (tl_ad g (w + 5)), .ref (tl_ad g (w + 6)), .ref (tl_ad g (w + 7)), .ref (tl_ad g (w + 8)), .int (σ w 12), .int (σ w 13)])) := by
  rcases h with rfl | rfl <;> rfl
theorem tl_kQ {q : Nat} (h : tl_isQ q) (g : tl_G) (σ : tl_St) : (tl_W g σ)[q]? = some (tl_ad g q, .inr (0, [.ref (tl_ad g (q + 1)), .int (σ q 1)])) := by
  rcases h with rfl | rfl <;> rfl
theorem tl_kS {s : Nat} (h : tl_isS s) (g : tl_G) (σ : tl_St) : (tl_W g σ)[s]? = some (tl_ad g s, .inr (1, [.int (σ s 0), .int (σ s 1), .int (σ s 2), .ref (tl_ad g (s + 1))])) := by
  rcases h with rfl | rfl | rfl | rfl <;> rfl
def tl_IA (g : tl_G) (c n : Nat) : Prop := (∀ σ : tl_St, (tl_W g σ)[c]? = some (tl_ad g c, .inl (g.2.1, n, .inl (σ c)))) ∧ ∀ (σ : tl_St) (f : Nat → Int32), (tl_W g σ).set c (tl_ad g c, .inl (g.2.1, n, .inl f)) = tl_W g (tl_setC σ c f)
theorem tl_aW1 {w : Nat} (h : tl_isW w) (g : tl_G) : tl_IA g (w + 1) 4 := by
  rcases h with rfl | rfl <;> exact ⟨fun _ => rfl, fun _ _ => rfl⟩
theorem tl_aW2 {w : Nat} (h : tl_isW w) (g : tl_G) : tl_IA g (w + 2) 4 := by
  rcases h with rfl | rfl <;> exact ⟨fun _ => rfl, fun _ _ => rfl⟩
theorem tl_aW3 {w : Nat} (h : tl_isW w) (g : tl_G) : tl_IA g (w + 3) 4 := by
  rcases h with rfl | rfl <;> exact ⟨fun _ => rfl, fun _ _ => rfl⟩
theorem tl_aW4 {w : Nat} (h : tl_isW w) (g : tl_G) : tl_IA g (w + 4) 4 := by
  rcases h with rfl | rfl <;> exact ⟨fun _ => rfl, fun _ _ => rfl⟩
theorem tl_aW5 {w : Nat} (h : tl_isW w) (g : tl_G) : tl_IA g (w + 5) 4 := by
  rcases h with rfl | rfl <;> exact ⟨fun _ => rfl, fun _ _ => rfl⟩
theorem tl_aW6 {w : Nat} (h : tl_isW w) (g : tl_G) : tl_IA g (w + 6) 4 := by
  rcases h with rfl | rfl <;> exact ⟨fun _ => rfl, fun _ _ => rfl⟩
theorem tl_aW7 {w : Nat} (h : tl_isW w) (g : tl_G) : tl_IA g (w + 7) 60 := by
  rcases h with rfl | rfl <;> exact ⟨fun _ => rfl, fun _ _ => rfl⟩
theorem tl_aW8 {w : Nat} (h : tl_isW w) (g : tl_G) : tl_IA g (w + 8) 4 := by
  rcases h with rfl | rfl <;> exact ⟨fun _ => rfl, fun _ _ => rfl⟩
theorem tl_aQ1 {q : Nat} (h : tl_isQ q) (g : tl_G) : tl_IA g (q + 1) 16 := by
  rcases h with rfl | rfl <;> exact ⟨fun _ => rfl, fun _ _ => rfl⟩
theorem tl_aS1 {s : Nat} (h : tl_isS s) (g : tl_G) : tl_IA g (s + 1) 60 := by
  rcases h with rfl | rfl | rfl | rfl <;> exact ⟨fun _ => rfl, fun _ _ => rfl⟩
theorem tl_a33 (g : tl_G) : tl_IA g 33 540 := ⟨fun _ => rfl, fun _ _ => rfl⟩
theorem tl_a35 (g : tl_G) : tl_IA g 35 4 := ⟨fun _ => rfl, fun _ _ => rfl⟩
theorem tl_a36 (g : tl_G) : tl_IA g 36 4 := ⟨fun _ => rfl, fun _ _ => rfl⟩
theorem tl_a37 (g : tl_G) : tl_IA g 37 240 := ⟨fun _ => rfl, fun _ _ => rfl⟩
theorem tl_a38 (g : tl_G) : tl_IA g 38 60 := ⟨fun _ => rfl, fun _ _ => rfl⟩
theorem tl_a39 (g : tl_G) : tl_IA g 39 4 := ⟨fun _ => rfl, fun _ _ => rfl⟩
theorem tl_a40 (g : tl_G) : tl_IA g 40 4 := ⟨fun _ => rfl, fun _ _ => rfl⟩
theorem tl_a41 (g : tl_G) : tl_IA g 41 4 := ⟨fun _ => rfl, fun _ _ => rfl⟩
theorem tl_a42 (g : tl_G) : tl_IA g 42 4 := ⟨fun _ => rfl, fun _ _ => rfl⟩
theorem tl_a43 (g : tl_G) : tl_IA g 43 4 := ⟨fun _ => rfl, fun _ _ => rfl⟩
theorem tl_a44 (g : tl_G) : tl_IA g 44 100 := ⟨fun _ => rfl, fun _ _ => rfl⟩
theorem tl_a46 (g : tl_G) : tl_IA g 46 60 := ⟨fun _ => rfl, fun _ _ => rfl⟩
theorem tl_a47 (g : tl_G) : tl_IA g 47 4 := ⟨fun _ => rfl, fun _ _ => rfl⟩
theorem tl_a48 (g : tl_G) : tl_IA g 48 4 := ⟨fun _ => rfl, fun _ _ => rfl⟩
theorem tl_a49 (g : tl_G) : tl_IA g 49 540 := ⟨fun _ => rfl, fun _ _ => rfl⟩
theorem tl_p0_5 (g : tl_G) (σ : tl_St) (x : Int32) : (tl_W g σ).set 0 (tl_ad g 0, .inr (3, [.ref (tl_ad g 1), .ref (tl_ad g 10), .ref (tl_ad g 19), .ref (tl_ad g 24), .ref (tl_ad g 33), .int x, .int (σ 0 6), .int (σ 0 7), .int (σ 0 8), .int (σ 0 9), .int (σ 0 10), .int (σ 0 11), .int (σ 0 12)])) = tl_W g (tl_set σ 0 5 x) := rfl
theorem tl_p0_6 (g : tl_G) (σ : tl_St) (x : Int32) : (tl_W g σ).set 0 (tl_ad g 0, .inr (3, [.ref (tl_ad g 1), .ref (tl_ad g 10), .ref (tl_ad g 19), .ref (tl_ad g 24), .ref (tl_ad g 33), .int (σ 0 5), .int x, .int (σ 0 7), .int (σ 0 8), .int (σ 0 9), .int (σ 0 10), .int (σ 0 11), .int (σ 0 12)])) = tl_W g (tl_set σ 0 6 x) := rfl
theorem tl_p0_7 (g : tl_G) (σ : tl_St) (x : Int32) : (tl_W g σ).set 0 (tl_ad g 0, .inr (3, [.ref (tl_ad g 1), .ref (tl_ad g 10), .ref (tl_ad g 19), .ref (tl_ad g 24), .ref (tl_ad g 33), .int (σ 0 5), .int (σ 0 6), .int x, .int (σ 0 8), .int (σ 0 9), .int (σ 0 10), .int (σ 0 11), .int (σ 0 12)])) = tl_W g (tl_set σ 0 7 x) := rfl
theorem tl_p0_8 (g : tl_G) (σ : tl_St) (x : Int32) : (tl_W g σ).set 0 (tl_ad g 0, .inr (3, [.ref (tl_ad g 1), .ref (tl_ad g 10), .ref (tl_ad g 19), .ref (tl_ad g 24), .ref (tl_ad g 33), .int (σ 0 5), .int (σ 0 6), .int (σ 0 7), .int x, .int (σ 0 9), .int (σ 0 10), .int (σ 0 11), .int (σ 0 12)])) = tl_W g (tl_set σ 0 8 x) := rfl
theorem tl_p0_9 (g : tl_G) (σ : tl_St) (x : Int32) : (tl_W g σ).set 0 (tl_ad g 0, .inr (3, [.ref (tl_ad g 1), .ref (tl_ad g 10), .ref (tl_ad g 19), .ref (tl_ad g 24), .ref (tl_ad g 33), .int (σ 0 5), .int (σ 0 6), .int (σ 0 7), .int (σ 0 8), .int x, .int (σ 0 10), .int (σ 0 11), .int (σ 0 12)])) = tl_W g (tl_set σ 0 9 x) := rfl
theorem tl_p0_10 (g : tl_G) (σ : tl_St) (x : Int32) : (tl_W g σ).set 0 (tl_ad g 0, .inr (3, [.ref (tl_ad g 1), .ref (tl_ad g 10), .ref (tl_ad g 19), .ref (tl_ad g 24), .ref (tl_ad g 33), .int (σ 0 5), .int (σ 0 6), .int (σ 0 7), .int (σ 0 8), .int (σ 0 9), .int x, .int (σ 0 11), .int (σ 0 12)])) = tl_W g (tl_set σ 0 10 x) := rfl
theorem tl_p0_11 (g : tl_G) (σ : tl_St) (x : Int32) : (tl_W g σ).set 0 (tl_ad g 0, .inr (3, [.ref (tl_ad g 1), .ref (tl_ad g 10), .ref (tl_ad g 19), .ref (tl_ad g 24), .ref (tl_ad g 33), .int (σ 0 5), .int (σ 0 6), .int (σ 0 7), .int (σ 0 8), .int (σ 0 9), .int (σ 0 10), .int x, .int (σ 0 12)])) = tl_W g (tl_set σ 0 11 x) := rfl
theorem tl_p0_12 (g : tl_G) (σ : tl_St) (x : Int32) : (tl_W g σ).set 0 (tl_ad g 0, .inr (3, [.ref (tl_ad g 1), .ref (tl_ad g 10), .ref (tl_ad g 19), .ref (tl_ad g 24), .ref (tl_ad g 33), .int (σ 0 5), .int (σ 0 6), .int (σ 0 7), .int (σ 0 8), .int (σ 0 9), .int (σ 0 10), .int (σ 0 11), .int x])) = tl_W g (tl_set σ 0 12 x) := rfl
theorem tl_pM_4 (g : tl_G) (σ : tl_St) (x : Int32) : (tl_W g σ).set 34 (tl_ad g 34, .inr (4, [.ref (tl_ad g 35), .ref (tl_ad g 36), .ref (tl_ad g 37), .ref (tl_ad g 38), .int x, .int (σ 34 5), .int (σ 34 6), .int (σ 34 7), .ref (tl_ad g 39), .ref (tl_ad g 40), .ref (tl_ad g 41), .ref (tl_ad g 42), .ref (tl_ad g 43), .int (σ 34 13), .int (σ 34 14), .ref (tl_ad g 44), .ref (tl_ad g 45), .int (σ 34 17), .ref (tl_ad g 46), .ref (tl_ad g 47), .int (σ 34 20), .int (σ 34 21), .ref (tl_ad g 48), .int (σ 34 23), .ref (tl_ad g 49), .int (σ 34 25), .int (σ 34 26), .int (σ 34 27), .int (σ 34 28), .int (σ 34 29)])) = tl_W g (tl_set σ 34 4 x) := rfl
theorem tl_pM_5 (g : tl_G) (σ : tl_St) (x : Int32) : (tl_W g σ).set 34 (tl_ad g 34, .inr (4, [.ref (tl_ad g 35), .ref (tl_ad g 36), .ref (tl_ad g 37), .ref (tl_ad g 38), .int (σ 34 4), .int x, .int (σ 34 6), .int (σ 34 7), .ref (tl_ad g 39), .ref (tl_ad g 40), .ref (tl_ad g 41), .ref (tl_ad g 42), .ref (tl_ad g 43), .int (σ 34 13), .int (σ 34 14), .ref (tl_ad g 44), .ref (tl_ad g 45), .int (σ 34 17), .ref (tl_ad g 46), .ref (tl_ad g 47), .int (σ 34 20), .int (σ 34 21), .ref (tl_ad g 48), .int (σ 34 23), .ref (tl_ad g 49), .int (σ 34 25), .int (σ 34 26), .int (σ 34 27), .int (σ 34 28), .int (σ 34 29)])) = tl_W g (tl_set σ 34 5 x) := rfl
theorem tl_pM_6 (g : tl_G) (σ : tl_St) (x : Int32) : (tl_W g σ).set 34 (tl_ad g 34, .inr (4, [.ref (tl_ad g 35), .ref (tl_ad g 36), .ref (tl_ad g 37), .ref (tl_ad g 38), .int (σ 34 4), .int (σ 34 5), .int x, .int (σ 34 7), .ref (tl_ad g 39), .ref (tl_ad g 40), .ref (tl_ad g 41), .ref (tl_ad g 42), .ref (tl_ad g 43), .int (σ 34 13), .int (σ 34 14), .ref (tl_ad g 44), .ref (tl_ad g 45), .int (σ 34 17), .ref (tl_ad g 46), .ref (tl_ad g 47), .int (σ 34 20), .int (σ 34 21), .ref (tl_ad g 48), .int (σ 34 23), .ref (tl_ad g 49), .int (σ 34 25), .int (σ 34 26), .int (σ 34 27), .int (σ 34 28), .int (σ 34 29)])) = tl_W g (tl_set σ 34 6 x) := rfl
theorem tl_pM_7 (g : tl_G) (σ : tl_St) (x : Int32) : (tl_W g σ).set 34 (tl_ad g 34, .inr (4, [.ref (tl_ad g 35), .ref (tl_ad g 36), .ref (tl_ad g 37), .ref (tl_ad g 38), .int (σ 34 4), .int (σ 34 5), .int (σ 34 6), .int x, .ref (tl_ad g 39), .ref (tl_ad g 40), .ref (tl_ad g 41), .ref (tl_ad g 42), .ref (tl_ad g 43), .int (σ 34 13), .int (σ 34 14), .ref (tl_ad g 44), .ref (tl_ad g 45), .int (σ 34 17), .ref (tl_ad g 46), .ref (tl_ad g 47), .int (σ 34 20), .int (σ 34 21), .ref (tl_ad g 48), .int (σ 34 23), .ref (tl_ad g 49), .int (σ 34 25), .int (σ 34 26), .int (σ 34 27), .int (σ 34 28), .int (σ 34 29)])) = tl_W g (tl_set σ 34 7 x) := rfl
theorem tl_pM_13 (g : tl_G) (σ : tl_St) (x : Int32) : (tl_W g σ).set 34 (tl_ad g 34, .inr (4, [.ref (tl_ad g 35), .ref (tl_ad g 36), .ref (tl_ad g 37), .ref (tl_ad g 38), .int (σ 34 4), .int (σ 34 5), .int (σ 34 6), .int (σ 34 7), .ref (tl_ad g 39), .ref (tl_ad g 40), .ref (tl_ad g 41), .ref (tl_ad g 42), .ref (tl_ad g 43), .int x, .int (σ 34 14), .ref (tl_ad g 44), .ref (tl_ad g 45), .int (σ 34 17), .ref (tl_ad g 46), .ref (tl_ad g 47), .int (σ 34 20), .int (σ 34 21), .ref (tl_ad g 48), .int (σ 34 23), .ref (tl_ad g 49), .int (σ 34 25), .int (σ 34 26), .int (σ 34 27), .int (σ 34 28), .int (σ 34 29)])) = tl_W g (tl_set σ 34 13 x) := rfl
theorem tl_pM_14 (g : tl_G) (σ : tl_St) (x : Int32) : (tl_W g σ).set 34 (tl_ad g 34, .inr (4, [.ref (tl_ad g 35), .ref (tl_ad g 36), .ref (tl_ad g 37), .ref (tl_ad g 38), .int (σ 34 4), .int (σ 34 5), .int (σ 34 6), .int (σ 34 7), .ref (tl_ad g 39), .ref (tl_ad g 40), .ref (tl_ad g 41), .ref (tl_ad g 42), .ref (tl_ad g 43), .int (σ 34 13), .int x, .ref (tl_ad g 44), .ref (tl_ad g 45), .int (σ 34 17), .ref (tl_ad g 46), .ref (tl_ad g 47), .int (σ 34 20), .int (σ 34 21), .ref (tl_ad g 48), .int (σ 34 23), .ref (tl_ad g 49), .int (σ 34 25), .int (σ 34 26), .int (σ 34 27), .int (σ 34 28), .int (σ 34 29)])) = tl_W g (tl_set σ 34 14 x) := rfl
theorem tl_pM_17 (g : tl_G) (σ : tl_St) (x : Int32) : (tl_W g σ).set 34 (tl_ad g 34, .inr (4, [.ref (tl_ad g 35), .ref (tl_ad g 36), .ref (tl_ad g 37), .ref (tl_ad g 38), .int (σ 34 4), .int (σ 34 5), .int (σ 34 6), .int (σ 34 7), .ref (tl_ad g 39), .ref (tl_ad g 40), .ref (tl_ad g 41), .ref (tl_ad g 42), .ref (tl_ad g 43), .int (σ 34 13), .int (σ 34 14), .ref (tl_ad g 44), .ref (tl_ad g 45), .int x, .ref (tl_ad g 46), .ref (tl_ad g 47), .int (σ 34 20), .int (σ 34 21), .ref (tl_ad g 48), .int (σ 34 23), .ref (tl_ad g 49), .int (σ 34 25), .int (σ 34 26), .int (σ 34 27), .int (σ 34 28), .int (σ 34 29)])) = tl_W g (tl_set σ 34 17 x) := rfl
theorem tl_pM_20 (g : tl_G) (σ : tl_St) (x : Int32) : (tl_W g σ).set 34 (tl_ad g 34, .inr (4, [.ref (tl_ad g 35), .ref (tl_ad g 36), .ref (tl_ad g 37), .ref (tl_ad g 38), .int (σ 34 4), .int (σ 34 5), .int (σ 34 6), .int (σ 34 7), .ref (tl_ad g 39), .ref (tl_ad g 40), .ref (tl_ad g 41), .ref (tl_ad g 42), .ref (tl_ad g 43), .int (σ 34 13), .int (σ 34 14), .ref (tl_ad g 44), .ref (tl_ad g 45), .int (σ 34 17), .ref (tl_ad g 46), .ref (tl_ad g 47), .int x, .int (σ 34 21), .ref (tl_ad g 48), .int (σ 34 23), .ref (tl_ad g 49), .int (σ 34 25), .int (σ 34 26), .int (σ 34 27), .int (σ 34 28), .int (σ 34 29)])) = tl_W g (tl_set σ 34 20 x) := rfl
theorem tl_pM_21 (g : tl_G) (σ : tl_St) (x : Int32) : (tl_W g σ).set 34 (tl_ad g 34, .inr (4, [.ref (tl_ad g 35), .ref (tl_ad g 36), .ref (tl_ad g 37), .ref (tl_ad g 38), .int (σ 34 4), .int (σ 34 5), .int (σ 34 6), .int (σ 34 7), .ref (tl_ad g 39), .ref (tl_ad g 40), .ref (tl_ad g 41), .ref (tl_ad g 42), .ref (tl_ad g 43), .int (σ 34 13), .int (σ 34 14), .ref (tl_ad g 44), .ref (tl_ad g 45), .int (σ 34 17), .ref (tl_ad g 46), .ref (tl_ad g 47), .int (σ 34 20), .int x, .ref (tl_ad g 48), .int (σ 34 23), .ref (tl_ad g 49), .int (σ 34 25), .int (σ 34 26), .int (σ 34 27), .int (σ 34 28), .int (σ 34 29)])) = tl_W g (tl_set σ 34 21 x) := rfl
theorem tl_pM_23 (g : tl_G) (σ : tl_St) (x : Int32) : (tl_W g σ).set 34 (tl_ad g 34, .inr (4, [.ref (tl_ad g 35), .ref (tl_ad g 36), .ref (tl_ad g 37), .ref (tl_ad g 38), .int (σ 34 4), .int (σ 34 5), .int (σ 34 6), .int (σ 34 7), .ref (tl_ad g 39), .ref (tl_ad g 40), .ref (tl_ad g 41), .ref (tl_ad g 42), .ref (tl_ad g 43), .int (σ 34 13), .int (σ 34 14), .ref (tl_ad g 44), .ref (tl_ad g 45), .int (σ 34 17), .ref (tl_ad g 46), .ref (tl_ad g 47), .int (σ 34 20), .int (σ 34 21), .ref (tl_ad g 48), .int x, .ref (tl_ad g 49), .int (σ 34 25), .int (σ 34 26), .int (σ 34 27), .int (σ 34 28), .int (σ 34 29)])) = tl_W g (tl_set σ 34 23 x) := rfl
theorem tl_pM_25 (g : tl_G) (σ : tl_St) (x : Int32) : (tl_W g σ).set 34 (tl_ad g 34, .inr (4, [.ref (tl_ad g 35), .ref (tl_ad g 36), .ref (tl_ad g 37), .ref (tl_ad g 38), .int (σ 34 4), .int (σ 34 5), .int (σ 34 6), .int (σ 34 7), .ref (tl_ad g 39), .ref (tl_ad g 40), .ref (tl_ad g 41), .ref (tl_ad g 42), .ref (tl_ad g 43), .int (σ 34 13), .int (σ 34 14), .ref (tl_ad g 44), .ref (tl_ad g 45), .int (σ 34 17), .ref (tl_ad g 46), .ref (tl_ad g 47), .int (σ 34 20), .int (σ 34 21), .ref (tl_ad g 48), .int (σ 34 23), .ref (tl_ad g 49), .int x, .int (σ 34 26), .int (σ 34 27), .int (σ 34 28), .int (σ 34 29)])) = tl_W g (tl_set σ 34 25 x) := rfl
theorem tl_pM_26 (g : tl_G) (σ : tl_St) (x : Int32) : (tl_W g σ).set 34 (tl_ad g 34, .inr (4, [.ref (tl_ad g 35), .ref (tl_ad g 36), .ref (tl_ad g 37), .ref (tl_ad g 38), .int (σ 34 4), .int (σ 34 5), .int (σ 34 6), .int (σ 34 7), .ref (tl_ad g 39), .ref (tl_ad g 40), .ref (tl_ad g 41), .ref (tl_ad g 42), .ref (tl_ad g 43), .int (σ 34 13), .int (σ 34 14), .ref (tl_ad g 44), .ref (tl_ad g 45), .int (σ 34 17), .ref (tl_ad g 46), .ref (tl_ad g 47), .int (σ 34 20), .int (σ 34 21), .ref (tl_ad g 48), .int (σ 34 23), .ref (tl_ad g 49), .int (σ 34 25), .int x, .int (σ 34 27), .int (σ 34 28), .int (σ 34 29)])) = tl_W g (tl_set σ 34 26 x) := rfl
theorem tl_pM_27 (g : tl_G) (σ : tl_St) (x : Int32) : (tl_W g σ).set 34 (tl_ad g 34, .inr (4, [.ref (tl_ad g 35), .ref (tl_ad g 36), .ref (tl_ad g 37), .ref (tl_ad g 38), .int (σ 34 4), .int (σ 34 5), .int (σ 34 6), .int (σ 34 7), .ref (tl_ad g 39), .ref (tl_ad g 40), .ref (tl_ad g 41), .ref (tl_ad g 42), .ref (tl_ad g 43), .int (σ 34 13), .int (σ 34 14), .ref (tl_ad g 44), .ref (tl_ad g 45), .int (σ 34 17), .ref (tl_ad g 46), .ref (tl_ad g 47), .int (σ 34 20), .int (σ 34 21), .ref (tl_ad g 48), .int (σ 34 23), .ref (tl_ad g 49), .int (σ 34 25), .int (σ 34 26), .int x, .int (σ 34 28), .int (σ 34 29)])) = tl_W g (tl_set σ 34 27 x) := rfl
theorem tl_pM_28 (g : tl_G) (σ : tl_St) (x : Int32) : (tl_W g σ).set 34 (tl_ad g 34, .inr (4, [.ref (tl_ad g 35), .ref (tl_ad g 36), .ref (tl_ad g 37), .ref (tl_ad g 38), .int (σ 34 4), .int (σ 34 5), .int (σ 34 6), .int (σ 34 7), .ref (tl_ad g 39), .ref (tl_ad g 40), .ref (tl_ad g 41), .ref (tl_ad g 42), .ref (tl_ad g 43), .int (σ 34 13), .int (σ 34 14), .ref (tl_ad g 44), .ref (tl_ad g 45), .int (σ 34 17), .ref (tl_ad g 46), .ref (tl_ad g 47), .int (σ 34 20), .int (σ 34 21), .ref (tl_ad g 48), .int (σ 34 23), .ref (tl_ad g 49), .int (σ 34 25), .int (σ 34 26), .int (σ 34 27), .int x, .int (σ 34 29)])) = tl_W g (tl_set σ 34 28 x) := rfl
theorem tl_pM_29 (g : tl_G) (σ : tl_St) (x : Int32) : (tl_W g σ).set 34 (tl_ad g 34, .inr (4, [.ref (tl_ad g 35), .ref (tl_ad g 36), .ref (tl_ad g 37), .ref (tl_ad g 38), .int (σ 34 4), .int (σ 34 5), .int (σ 34 6), .int (σ 34 7), .ref (tl_ad g 39), .ref (tl_ad g 40), .ref (tl_ad g 41), .ref (tl_ad g 42), .ref (tl_ad g 43), .int (σ 34 13), .int (σ 34 14), .ref (tl_ad g 44), .ref (tl_ad g 45), .int (σ 34 17), .ref (tl_ad g 46), .ref (tl_ad g 47), .int (σ 34 20), .int (σ 34 21), .ref (tl_ad g 48), .int (σ 34 23), .ref (tl_ad g 49), .int (σ 34 25), .int (σ 34 26), .int (σ 34 27), .int (σ 34 28), .int x])) = tl_W g (tl_set σ 34 29 x) := rfl
theorem tl_pW_0 {w : Nat} (h : tl_isW w) (g : tl_G) (σ : tl_St) (x : Int32) : (tl_W g σ).set w (tl_ad g w, .inr (2, [.int x, .int (σ w 1), .int (σ w 2), .int (σ w 3), .ref (tl_ad g (w + 1)), .ref (tl_ad g (w + 2)), .ref (tl_ad g (w + 3)), .ref (tl_ad g (w + 4)), .ref (tl_ad g (w + 5)), .ref (tl_ad g (w + 6)), .ref (tl_ad g (w + 7)), .ref (tl_ad g (w + 8)), .int (σ w 12), .int (σ w 13)])) = tl_W g (tl_set σ w 0 x) := by
  rcases h with rfl | rfl <;> rfl
theorem tl_pW_1 {w : Nat} (h : tl_isW w) (g : tl_G) (σ : tl_St) (x : Int32) : (tl_W g σ).set w (tl_ad g w, .inr (2, [.int (σ w 0), .int x, .int (σ w 2), .int (σ w 3), .ref (tl_ad g (w + 1)), .ref (tl_ad g (w + 2)), .ref (tl_ad g (w + 3)), .ref (tl_ad g (w + 4)), .ref (tl_ad g (w + 5)), .ref (tl_ad g (w + 6)), .ref (tl_ad g (w + 7)), .ref (tl_ad g (w + 8)), .int (σ w 12), .int (σ w 13)])) = tl_W g (tl_set σ w 1 x) := by
  rcases h with rfl | rfl <;> rfl
theorem tl_pW_2 {w : Nat} (h : tl_isW w) (g : tl_G) (σ : tl_St) (x : Int32) : (tl_W g σ).set w (tl_ad g w, .inr (2, [.int (σ w 0), .int (σ w 1), .int x, .int (σ w 3), .ref (tl_ad g (w + 1)), .ref (tl_ad g (w + 2)), .ref (tl_ad g (w + 3)), .ref (tl_ad g (w + 4)), .ref (tl_ad g (w + 5)), .ref (tl_ad g (w + 6)), .ref (tl_ad g (w + 7)), .ref (tl_ad g (w + 8)), .int (σ w 12), .int (σ w 13)])) = tl_W g (tl_set σ w 2 x) := by
  rcases h with rfl | rfl <;> rfl
theorem tl_pW_3 {w : Nat} (h : tl_isW w) (g : tl_G) (σ : tl_St) (x : Int32) : (tl_W g σ).set w (tl_ad g w, .inr (2, [.int (σ w 0), .int (σ w 1), .int (σ w 2), .int x, .ref (tl_ad g (w + 1)), .ref (tl_ad g (w + 2)), .ref (tl_ad g (w + 3)), .ref (tl_ad g (w + 4)), .ref (tl_ad g (w + 5)), .ref (tl_ad g (w + 6)), .ref (tl_ad g (w + 7)), .ref (tl_ad g (w + 8)), .int (σ w 12), .int (σ w 13)])) = tl_W g (tl_set σ w 3 x) := by
  rcases h with rfl | rfl <;> rfl
theorem tl_pW_12 {w : Nat} (h : tl_isW w) (g : tl_G) (σ : tl_St) (x : Int32) : (tl_W g σ).set w (tl_ad g w, .inr (2, [.int (σ w 0), .int (σ w 1), .int (σ w 2), .int (σ w 3), .ref (tl_ad g (w + 1)), .ref (tl_ad g (w + 2)), .ref (tl_ad g (w + 3)), .ref (tl_ad g (w + 4)), .ref (tl_ad g (w + 5)), .ref (tl_ad g (w + 6)), .ref (tl_ad g (w + 7)), .ref (tl_ad g (w + 8)), .int x, .int (σ w 13)])) = tl_W g (tl_set σ w 12 x) := by
  rcases h with rfl | rfl <;> rfl
theorem tl_pW_13 {w : Nat} (h : tl_isW w) (g : tl_G) (σ : tl_St) (x : Int32) : (tl_W g σ).set w (tl_ad g w, .inr (2, [.int (σ w 0), .int (σ w 1), .int (σ w 2), .int (σ w 3), .ref (tl_ad g (w + 1)), .ref (tl_ad g (w + 2)), .ref (tl_ad g (w + 3)), .ref (tl_ad g (w + 4)), .ref (tl_ad g (w + 5)), .ref (tl_ad g (w + 6)), .ref (tl_ad g (w + 7)), .ref (tl_ad g (w + 8)), .int (σ w 12), .int x])) = tl_W g (tl_set σ w 13 x) := by
  rcases h with rfl | rfl <;> rfl
theorem tl_pQ_1 {q : Nat} (h : tl_isQ q) (g : tl_G) (σ : tl_St) (x : Int32) : (tl_W g σ).set q (tl_ad g q, .inr (0, [.ref (tl_ad g (q + 1)), .int x])) = tl_W g (tl_set σ q 1 x) := by
  rcases h with rfl | rfl <;> rfl
theorem tl_pS_0 {s : Nat} (h : tl_isS s) (g : tl_G) (σ : tl_St) (x : Int32) : (tl_W g σ).set s (tl_ad g s, .inr (1, [.int x, .int (σ s 1), .int (σ s 2), .ref (tl_ad g (s + 1))])) = tl_W g (tl_set σ s 0 x) := by
  rcases h with rfl | rfl | rfl | rfl <;> rfl
theorem tl_pS_1 {s : Nat} (h : tl_isS s) (g : tl_G) (σ : tl_St) (x : Int32) : (tl_W g σ).set s (tl_ad g s, .inr (1, [.int (σ s 0), .int x, .int (σ s 2), .ref (tl_ad g (s + 1))])) = tl_W g (tl_set σ s 1 x) := by
  rcases h with rfl | rfl | rfl | rfl <;> rfl
theorem tl_pS_2 {s : Nat} (h : tl_isS s) (g : tl_G) (σ : tl_St) (x : Int32) : (tl_W g σ).set s (tl_ad g s, .inr (1, [.int (σ s 0), .int (σ s 1), .int x, .ref (tl_ad g (s + 1))])) = tl_W g (tl_set σ s 2 x) := by
  rcases h with rfl | rfl | rfl | rfl <;> rfl
