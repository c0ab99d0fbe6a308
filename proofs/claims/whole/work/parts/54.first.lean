/-! the first state, and the two objects' cells side by side -/
def in_σ : tl_St := fun c => match c with
  | 1 => fun k => if k = 0 then 30 else 0
  | 10 => fun k => if k = 0 then 30 else 0
  | 25 => fun k => if k = 0 then 1 else 0
  | 27 => fun k => if k = 0 then 1 else 0
  | 29 => fun k => if k = 0 then 1 else 0
  | 31 => fun k => if k = 0 then 1 else 0
  | 34 => fun k => if k = 5 then 30 else 0
  | 35 => upd (upd (upd (upd (fun _ => 0) 0 (-1)) 1 (-1)) 2 (-1)) 3 (-1)
  | _ => fun _ => 0
theorem in_R : re_R in_σ := by
  refine ⟨fun a b => if a = 0 then (if b = 0 then 30 else 0) else 0, fun _ => 0, false, 0, 30, 0, 0, 0, ⟨⟨rfl, by decide, by decide, by decide, fun i hi => absurd hi (Nat.not_lt_zero i)⟩, fun i hi => absurd hi (Nat.not_lt_zero i), by decide, rfl, ⟨rfl, rfl, rfl, fun i hi => absurd hi (Nat.not_lt_zero i)⟩, rfl, ⟨rfl, rfl, rfl, fun i hi => absurd hi (Nat.not_lt_zero i)⟩, rfl⟩, ⟨rfl, rfl, by decide, rfl, rfl, rfl, rfl, rfl, rfl, rfl⟩, ⟨rfl, rfl, by decide, fun b hb => absurd hb (Nat.not_lt_zero b), fun w hw => ?_⟩, fun s hs => ?_⟩
  · have e : re_q in_σ w 0 = [] := rfl
    rw [e]
    refine ⟨?_, by decide, fun j hj => absurd hj (Nat.not_lt_zero j)⟩
    rcases (show w = 0 ∨ w = 1 by omega) with rfl | rfl <;> rfl
  · refine ⟨0, ?_⟩
    rcases (show s = 0 ∨ s = 1 ∨ s = 2 ∨ s = 3 by omega) with rfl | rfl | rfl | rfl <;> exact ⟨by decide, rfl, rfl, Or.inl ⟨rfl, rfl⟩, fun i hi => absurd hi (Nat.not_lt_zero i)⟩
def in_ad (ad3 ad4 : Nat → Nat) : Nat → Nat := fun k => if k < 34 then ad3 k else ad4 k
def in_g (D : va_G) (cI cZ cQ cS : ClassId) (ad3 ad4 : Nat → Nat) : tl_G := (D, cI, cZ, cQ, cS, in_ad ad3 ad4)
theorem in_P {D : va_G} {cI cZ cQ cS : ClassId} {ad3 ad4 : Nat → Nat} {H : Heap} (hP : va_P D vwCl (ct_F3 cI cQ cS ad3 ++ ct_F4 cI cZ ad4) H) : va_P D vwCl (tl_W (in_g D cI cZ cQ cS ad3 ad4) in_σ) H := by
  have h1 := ct_setq (k := 19) (f' := fun j => some (in_ad ad3 ad4 (20 + 2 * j))) hP rfl (fun j hj => by rcases (show j = 0 ∨ j = 1 by omega) with rfl | rfl <;> rfl)
  have h2 := ct_setq (k := 24) (f' := fun j => some (in_ad ad3 ad4 (25 + 2 * j))) h1 rfl (fun j hj => by rcases (show j = 0 ∨ j = 1 ∨ j = 2 ∨ j = 3 by omega) with rfl | rfl | rfl | rfl <;> rfl)
  exact h2
theorem in_fst (cI cZ cQ cS : ClassId) (ad3 ad4 : Nat → Nat) : (ct_F3 cI cQ cS ad3 ++ ct_F4 cI cZ ad4).map Prod.fst = (List.range 50).map (in_ad ad3 ad4) := rfl
theorem in_at {cI cZ cQ cS : ClassId} {ad3 ad4 : Nat → Nat} {k : Nat} (hk : k < 50) : ∃ e, (ct_F3 cI cQ cS ad3 ++ ct_F4 cI cZ ad4)[k]? = some (in_ad ad3 ad4 k, e) := by
  have h := congrArg (fun z : List Nat => z[k]?) (in_fst cI cZ cQ cS ad3 ad4)
  simp only [List.getElem?_map, List.getElem?_range hk] at h
  cases hq : (ct_F3 cI cQ cS ad3 ++ ct_F4 cI cZ ad4)[k]? with
  | none => rw [hq] at h; cases h
  | some q =>
    rw [hq] at h
    exact ⟨q.2, by rw [← Option.some.inj h]⟩
theorem in_I {D : va_G} {cI cZ cQ cS : ClassId} {ad3 ad4 : Nat → Nat} {A : Nat → Prop} (hD : va_D A (ct_F3 cI cQ cS ad3 ++ ct_F4 cI cZ ad4)) : tl_I (in_g D cI cZ cQ cS ad3 ad4) := by
  intro i j hi hj e
  obtain ⟨x, hx⟩ := in_at (cI := cI) (cZ := cZ) (cQ := cQ) (cS := cS) (ad3 := ad3) (ad4 := ad4) hi
  obtain ⟨y, hy⟩ := in_at (cI := cI) (cZ := cZ) (cQ := cQ) (cS := cS) (ad3 := ad3) (ad4 := ad4) hj
  exact hD.1 i j _ _ hx hy e
theorem in_A {D : va_G} {cI cZ cQ cS : ClassId} {ad3 ad4 : Nat → Nat} {A : Nat → Prop} (hD : va_D A (ct_F3 cI cQ cS ad3 ++ ct_F4 cI cZ ad4)) : ∀ q, tl_A (in_g D cI cZ cQ cS ad3 ad4) q → A q := by
  rintro q ⟨k, hk, rfl⟩
  obtain ⟨x, hx⟩ := in_at (cI := cI) (cZ := cZ) (cQ := cQ) (cS := cS) (ad3 := ad3) (ad4 := ad4) hk
  exact hD.2 k _ hx
/-- the classes of the arrays -/
theorem in_T {s : State} {args : Array Value} (h1 : (Cond.arrayClass .int).before args s = true) (h2 : (Cond.arrayClass .boolean).before args s = true) (h3 : (Cond.arrayOver (.object RX0)).before args s = true) (h4 : (Cond.arrayOver (.object RX1)).before args s = true) {D : va_G} (hK : va_K D vwCl [] s) : ∃ cI cZ cQ cS : ClassId, va_K D vwCl (ct_T cI cZ cQ cS) s := by
  obtain ⟨cI, kI, oI, i1, i2, i3⟩ := Cond.arrayClass_spec h1
  obtain ⟨cZ, kZ, oZ, z1, z2, z3⟩ := Cond.arrayClass_spec h2
  obtain ⟨oQ, cQ, kQ, q1, -, q2, q3, q4⟩ := Cond.arrayOver_spec h3
  obtain ⟨oS, cS, kS, s1, -, s2, s3, s4⟩ := Cond.arrayOver_spec h4
  refine ⟨cI, cZ, cQ, cS, hK.1, fun k q hk => ?_⟩
  match k, hk with
  | 0, hk => cases hk; exact ⟨fun n z => ⟨fun k h => (by cases h), kI, i2, oI, i3⟩, i1⟩
  | 1, hk => cases hk; exact ⟨fun n z => ⟨fun k h => (by cases h), kZ, z2, oZ, z3⟩, z1⟩
  | 2, hk => cases hk; exact ⟨fun n z => ⟨fun k h => (by cases h), kQ, q2, oQ, q3⟩, kQ, oQ, q2, q3, q1, q4⟩
  | 3, hk => cases hk; exact ⟨fun n z => ⟨fun k h => (by cases h), kS, s2, oS, s3⟩, kS, oS, s2, s3, s1, s4⟩
  | k + 4, hk => simp [ct_T] at hk
