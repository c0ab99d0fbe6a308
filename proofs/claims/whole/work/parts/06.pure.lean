def tl_b2 {α γ β : Type} (x : α × γ) (f : α → γ → β) : β := f x.1 x.2
theorem tl_nm2 {α γ β : Type} {x : α × γ} {f : α → γ → β} {o : β} (h : tl_b2 x f = o) : ∃ a c, x = (a, c) ∧ f a c = o := ⟨x.1, x.2, rfl, h⟩
def fX0_boatAt (σ : tl_St) (o : Nat) (a1 : Int32) : Option Int32 :=
  tl_bnd (
  some (-1)) fun (k1 : Option Int32) =>
  if a1 < 0 then
  k1
  else
  if (σ o 1) ≤ a1 then
  k1
  else
  if tl_in a1 16 then
  some (σ (o + 1) a1.toNatClampNeg)
  else none
def fX0_append (σ : tl_St) (o : Nat) (a1 : Int32) : Option tl_St :=
  if 16 ≤ (σ o 1) then
  some σ
  else
  if tl_in (σ o 1) 16 then
  tl_bnd (tl_set σ (o + 1) ((σ o 1).toNatClampNeg) a1) fun σ3 =>
  tl_bnd (tl_set σ3 o 1 ((σ3 o 1) + 1)) fun σ4 =>
  some σ4
  else none
def fX0_placeOf_L2 (σ : tl_St) (o : Nat) (a1 : Int32) (k1 : Option Int32) : Nat → Int32 → Option Int32
  | 0, _ => none
  | n + 1, x2 =>
    if (σ o 1) ≤ x2 then
    k1
    else
    if tl_in x2 16 then
    if (σ (o + 1) x2.toNatClampNeg) = a1 then
    some x2
    else
    tl_bnd (x2 + 1) fun x6 =>
    fX0_placeOf_L2 σ o a1 k1 n x6
    else none
def fX0_placeOf (σ : tl_St) (o : Nat) (a1 : Int32) : Option Int32 :=
  tl_bnd (
  some (-1)) fun (k1 : Option Int32) =>
  fX0_placeOf_L2 σ o a1 k1 1000 0
def fX0_removeAt (σ : tl_St) (o : Nat) (a1 : Int32) : Option tl_St :=
  if a1 < 0 then
  some σ
  else
  if a1 < (σ o 1) then
  if tl_cok (a1 + 1) a1 (((σ o 1) - a1) - 1) 16 16 then
  tl_bnd (tl_setC σ (o + 1) (va_cpy (σ (o + 1)) (σ (o + 1)) ((a1 + 1).toNatClampNeg) (a1.toNatClampNeg) ((((σ o 1) - a1) - 1).toNatClampNeg))) fun σ4 =>
  tl_bnd (tl_set σ4 o 1 ((σ4 o 1) - 1)) fun σ5 =>
  some σ5
  else none
  else
  some σ
def fJ7_fill_53178_L5 (a1 : Nat) (n1 : Nat) (a2 : Int32) (x1 : Int32) (k3 : tl_St → Option tl_St) : Nat → tl_St → Int32 → Option tl_St
  | 0, _, _ => none
  | n + 1, σ4, x5 =>
    if x1 ≤ x5 then
    k3 σ4
    else
    if tl_in x5 n1 then
    tl_bnd (tl_set σ4 a1 (x5.toNatClampNeg) a2) fun σ8 =>
    tl_bnd (x5 + 1) fun x9 =>
    fJ7_fill_53178_L5 a1 n1 a2 x1 k3 n σ8 x9
    else none
def fJ7_fill_53178 (σ : tl_St) (a1 : Nat) (n1 : Nat) (a2 : Int32) : Option tl_St :=
  tl_bnd ((Int32.ofNat n1)) fun x1 =>
  tl_bnd (fun (σ2 : tl_St) =>
  some σ2) fun (k3 : tl_St → Option tl_St) =>
  fJ7_fill_53178_L5 a1 n1 a2 x1 k3 1000 σ 0
def fX1_renew (σ : tl_St) (o : Nat) (a1 : Int32) (a2 : Int32) : Option tl_St :=
  tl_bnd (tl_set σ o 0 0) fun σ1 =>
  tl_bnd (tl_set σ1 o 1 a1) fun σ2 =>
  tl_bnd (tl_set σ2 o 2 a2) fun σ3 =>
  tl_o1 (fJ7_fill_53178 σ3 (o + 1) 60 0) fun σ4 =>
  some σ4
def fX1_faultAt (σ : tl_St) (o : Nat) (a1 : Int32) (a2 : Int32) : Int32 :=
  if (σ o 0) = 0 then
  if (σ o 1) = a1 then
  tl_bnd (
  2) fun (k3 : Int32) =>
  if a2 < 0 then
  k3
  else
  if a2 < (σ o 2) then
  0
  else
  k3
  else
  3
  else
  1
def fX1_hasSpan (σ : tl_St) (o : Nat) (a1 : Int32) (a2 : Int32) : Int32 :=
  tl_bnd (
  0) fun (k1 : Int32) =>
  if a1 < 0 then
  k1
  else
  if a2 < 0 then
  k1
  else
  if ((σ o 2) - a1) < a2 then
  k1
  else
  1
theorem bX1_hasSpan (σ : tl_St) (o : Nat) (a1 : Int32) (a2 : Int32) : tl_isb (fX1_hasSpan σ o a1 a2) := by
  unfold fX1_hasSpan
  try simp only [tl_bnd]
  repeat (first | exact Or.inl rfl | exact Or.inr rfl | split)
def fX1_put (σ : tl_St) (o : Nat) (a1 : Int32) (a2 : Int32) : Option tl_St :=
  if (σ o 1) = 0 then
  if tl_in a1 60 then
  tl_bnd (tl_set σ (o + 1) (a1.toNatClampNeg) (a2.toInt8.toInt32)) fun σ3 =>
  some σ3
  else none
  else
  if (σ o 1) = 1 then
  if tl_in a1 60 then
  tl_bnd (tl_set σ (o + 1) (a1.toNatClampNeg) (a2.toInt16.toInt32)) fun σ6 =>
  some σ6
  else none
  else
  if tl_in a1 60 then
  tl_bnd (tl_set σ (o + 1) (a1.toNatClampNeg) a2) fun σ8 =>
  some σ8
  else none
def fX2_becomeLike (σ : tl_St) (o : Nat) (a1 : Nat) : Option tl_St :=
  tl_bnd (tl_set σ o 0 (σ a1 0)) fun σ1 =>
  tl_bnd (tl_set σ1 o 1 (σ1 a1 1)) fun σ2 =>
  tl_bnd (tl_set σ2 o 2 (σ2 a1 2)) fun σ3 =>
  tl_bnd (tl_set σ3 o 3 (σ3 a1 3)) fun σ4 =>
  tl_bnd (tl_setC σ4 (o + 1) (va_cpy (σ4 (a1 + 1)) (σ4 (o + 1)) ((0 : Int32).toNatClampNeg) ((0 : Int32).toNatClampNeg) ((4 : Int32).toNatClampNeg))) fun σ5 =>
  tl_bnd (tl_setC σ5 (o + 2) (va_cpy (σ5 (a1 + 2)) (σ5 (o + 2)) ((0 : Int32).toNatClampNeg) ((0 : Int32).toNatClampNeg) ((4 : Int32).toNatClampNeg))) fun σ6 =>
  tl_bnd (tl_setC σ6 (o + 3) (va_cpy (σ6 (a1 + 3)) (σ6 (o + 3)) ((0 : Int32).toNatClampNeg) ((0 : Int32).toNatClampNeg) ((4 : Int32).toNatClampNeg))) fun σ7 =>
  tl_bnd (tl_setC σ7 (o + 4) (va_cpy (σ7 (a1 + 4)) (σ7 (o + 4)) ((0 : Int32).toNatClampNeg) ((0 : Int32).toNatClampNeg) ((4 : Int32).toNatClampNeg))) fun σ8 =>
  tl_bnd (tl_setC σ8 (o + 5) (va_cpy (σ8 (a1 + 5)) (σ8 (o + 5)) ((0 : Int32).toNatClampNeg) ((0 : Int32).toNatClampNeg) ((4 : Int32).toNatClampNeg))) fun σ9 =>
  tl_bnd (tl_setC σ9 (o + 6) (va_cpy (σ9 (a1 + 6)) (σ9 (o + 6)) ((0 : Int32).toNatClampNeg) ((0 : Int32).toNatClampNeg) ((4 : Int32).toNatClampNeg))) fun σ10 =>
  some σ10
def fX2_riseOf (σ : tl_St) (a1 : Int32) : Int32 :=
  if a1 = 1 then
  6
  else
  if a1 = 2 then
  3
  else
  2
def fX2_addBasin (σ : tl_St) (o : Nat) (a1 : Int32) (a2 : Int32) (a3 : Int32) : Option tl_St :=
  tl_bnd ((σ o 2)) fun x1 =>
  if x1 < 4 then
  if tl_in x1 4 then
  tl_bnd (tl_set σ (o + 1) (x1.toNatClampNeg) a1) fun σ4 =>
  if tl_in x1 4 then
  tl_bnd (tl_set σ4 (o + 2) (x1.toNatClampNeg) a2) fun σ6 =>
  if tl_in x1 4 then
  tl_bnd (tl_set σ6 (o + 3) (x1.toNatClampNeg) a3) fun σ8 =>
  tl_bnd (fX2_riseOf σ8 a3) fun r9 =>
  if tl_in x1 4 then
  tl_bnd (tl_set σ8 (o + 4) (x1.toNatClampNeg) r9) fun σ11 =>
  if tl_in x1 4 then
  tl_bnd (tl_set σ11 (o + 5) (x1.toNatClampNeg) 0) fun σ13 =>
  if tl_in x1 4 then
  tl_bnd (tl_set σ13 (o + 6) (x1.toNatClampNeg) 0) fun σ15 =>
  tl_bnd (tl_set σ15 o 2 ((σ15 o 2) + 1)) fun σ16 =>
  some σ16
  else none
  else none
  else none
  else none
  else none
  else none
  else
  some σ
def fX2_isOut (σ : tl_St) (o : Nat) (a1 : Int32) : Int32 :=
  if (((σ o 3) >>> (a1 &&& 31)) &&& 1) = 0 then
  0
  else
  1
theorem bX2_isOut (σ : tl_St) (o : Nat) (a1 : Int32) : tl_isb (fX2_isOut σ o a1) := by
  unfold fX2_isOut
  try simp only [tl_bnd]
  repeat (first | exact Or.inl rfl | exact Or.inr rfl | split)
def fX2_levelHolding (σ : tl_St) (o : Nat) (a1 : Int32) (a2 : Int32) : Option Int32 :=
  if tl_in a1 4 then
  if tl_in a1 4 then
  some ((6 * (σ (o + 1) a1.toNatClampNeg)) + ((σ (o + 4) a1.toNatClampNeg) * a2))
  else none
  else none
def fX2_heldInAll_L4 (σ : tl_St) (o : Nat) (k2 : Int32 → Option Int32) : Nat → Int32 → Int32 → Option Int32
  | 0, _, _ => none
  | n + 1, x3, x4 =>
    if (σ o 2) ≤ x4 then
    k2 x3
    else
    if tl_in x4 4 then
    tl_bnd ((x3 + (σ (o + 6) x4.toNatClampNeg))) fun x7 =>
    tl_bnd (x4 + 1) fun x8 =>
    fX2_heldInAll_L4 σ o k2 n x7 x8
    else none
def fX2_heldInAll (σ : tl_St) (o : Nat) : Option Int32 :=
  tl_bnd (fun (x1 : Int32) =>
  some x1) fun (k2 : Int32 → Option Int32) =>
  fX2_heldInAll_L4 σ o k2 1000 0 0
def fX2_basinToGive_L7 (σ : tl_St) (o : Nat) (a1 : Int32) (k2 : Int32 → Option Int32) : Nat → Int32 → Int32 → Int32 → Option Int32
  | 0, _, _, _ => none
  | n + 1, x3, x4, x5 =>
    if (σ o 2) ≤ x5 then
    k2 x3
    else
    tl_bnd (fX2_isOut σ o x5) fun r7 =>
    if r7 = 0 then
    if tl_in x5 4 then
    if 1 ≤ (σ (o + 6) x5.toNatClampNeg) then
    if tl_in x5 4 then
    tl_o1 (fX2_levelHolding σ o x5 ((σ (o + 6) x5.toNatClampNeg) - 1)) fun r13 =>
    if r13 < a1 then
    tl_bnd (x5 + 1) fun x15 =>
    fX2_basinToGive_L7 σ o a1 k2 n x3 x4 x15
    else
    tl_bnd (
    tl_bnd (x5 + 1) fun x17 =>
    fX2_basinToGive_L7 σ o a1 k2 n x5 r13 x17) fun (k16 : Option Int32) =>
    if x3 = (-1) then
    k16
    else
    if x4 ≤ r13 then
    tl_bnd (x5 + 1) fun x20 =>
    fX2_basinToGive_L7 σ o a1 k2 n x3 x4 x20
    else
    k16
    else none
    else
    tl_bnd (x5 + 1) fun x21 =>
    fX2_basinToGive_L7 σ o a1 k2 n x3 x4 x21
    else none
    else
    tl_bnd (x5 + 1) fun x9 =>
    fX2_basinToGive_L7 σ o a1 k2 n x3 x4 x9
def fX2_basinToGive (σ : tl_St) (o : Nat) (a1 : Int32) : Option Int32 :=
  tl_bnd (fun (x1 : Int32) =>
  some x1) fun (k2 : Int32 → Option Int32) =>
  fX2_basinToGive_L7 σ o a1 k2 1000 (-1) 0 0
def fX2_basinToTake_L7 (σ : tl_St) (o : Nat) (a1 : Int32) (k2 : Int32 → Option Int32) : Nat → Int32 → Int32 → Int32 → Option Int32
  | 0, _, _, _ => none
  | n + 1, x3, x4, x5 =>
    if (σ o 2) ≤ x5 then
    k2 x3
    else
    tl_bnd (fX2_isOut σ o x5) fun r7 =>
    if r7 = 0 then
    if tl_in x5 4 then
    if tl_in x5 4 then
    if (σ (o + 6) x5.toNatClampNeg) < (σ (o + 2) x5.toNatClampNeg) then
    if tl_in x5 4 then
    tl_o1 (fX2_levelHolding σ o x5 ((σ (o + 6) x5.toNatClampNeg) + 1)) fun r14 =>
    if a1 < r14 then
    tl_bnd (x5 + 1) fun x16 =>
    fX2_basinToTake_L7 σ o a1 k2 n x3 x4 x16
    else
    tl_bnd (
    tl_bnd (x5 + 1) fun x18 =>
    fX2_basinToTake_L7 σ o a1 k2 n x5 r14 x18) fun (k17 : Option Int32) =>
    if x3 = (-1) then
    k17
    else
    if r14 ≤ x4 then
    tl_bnd (x5 + 1) fun x21 =>
    fX2_basinToTake_L7 σ o a1 k2 n x3 x4 x21
    else
    k17
    else none
    else
    tl_bnd (x5 + 1) fun x22 =>
    fX2_basinToTake_L7 σ o a1 k2 n x3 x4 x22
    else none
    else none
    else
    tl_bnd (x5 + 1) fun x9 =>
    fX2_basinToTake_L7 σ o a1 k2 n x3 x4 x9
def fX2_basinToTake (σ : tl_St) (o : Nat) (a1 : Int32) : Option Int32 :=
  tl_bnd (fun (x1 : Int32) =>
  some x1) fun (k2 : Int32 → Option Int32) =>
  fX2_basinToTake_L7 σ o a1 k2 1000 (-1) 0 0
def fX2_loseByLeaks_L7 (o : Nat) (k3 : tl_St → Option tl_St) : Nat → tl_St → Int32 → Option tl_St
  | 0, _, _ => none
  | n + 1, σ4, x5 =>
    if (σ4 o 2) ≤ x5 then
    k3 σ4
    else
    if tl_in x5 4 then
    if tl_in x5 4 then
    tl_bnd ((if (σ4 (o + 6) x5.toNatClampNeg) < (σ4 (o + 5) x5.toNatClampNeg) then (σ4 (o + 6) x5.toNatClampNeg) else (σ4 (o + 5) x5.toNatClampNeg))) fun x9 =>
    if tl_in x5 4 then
    if tl_in x5 4 then
    tl_bnd (tl_set σ4 (o + 6) (x5.toNatClampNeg) ((σ4 (o + 6) x5.toNatClampNeg) - x9)) fun σ12 =>
    tl_bnd (tl_set σ12 o 13 ((σ12 o 13) + x9)) fun σ13 =>
    tl_bnd (x5 + 1) fun x14 =>
    fX2_loseByLeaks_L7 o k3 n σ13 x14
    else none
    else none
    else none
    else none
def fX2_loseByLeaks (σ : tl_St) (o : Nat) : Option tl_St :=
  tl_bnd (tl_set σ o 13 0) fun σ1 =>
  tl_bnd (fun (σ2 : tl_St) =>
  some σ2) fun (k3 : tl_St → Option tl_St) =>
  fX2_loseByLeaks_L7 o k3 1000 σ1 0
def fX2_makeTurn_L38 (o : Nat) (x1 : Int32) (x3 : Int32) (k8 : tl_St → Option tl_St) : Nat → tl_St → Int32 → Option tl_St
  | 0, _, _ => none
  | n + 1, σ10, x11 =>
    if (σ10 o 0) ≤ x11 then
    k8 σ10
    else
    tl_bnd (tl_set σ10 o 1 ((σ10 o 1) + x3)) fun σ13 =>
    tl_bnd (fun (x14 : Int32) =>
    if tl_in x11 60 then
    tl_bnd (tl_set σ13 (o + 7) (x11.toNatClampNeg) x14) fun σ17 =>
    if x14 = (-1) then
    tl_bnd (tl_set σ17 o 12 ((σ17 o 12) + 1)) fun σ26 =>
    tl_bnd (x11 + 1) fun x27 =>
    fX2_makeTurn_L38 o x1 x3 k8 n σ26 x27
    else
    if tl_in x14 4 then
    if tl_in x14 4 then
    tl_bnd (tl_set σ17 (o + 6) (x14.toNatClampNeg) ((σ17 (o + 6) x14.toNatClampNeg) - x3)) fun σ21 =>
    if tl_in x14 4 then
    if tl_in x14 4 then
    tl_bnd (tl_set σ21 (o + 8) (x14.toNatClampNeg) ((σ21 (o + 8) x14.toNatClampNeg) + 1)) fun σ24 =>
    tl_bnd (x11 + 1) fun x25 =>
    fX2_makeTurn_L38 o x1 x3 k8 n σ24 x25
    else none
    else none
    else none
    else none
    else none) fun (k15 : Int32 → Option tl_St) =>
    if x1 = 0 then
    tl_o1 (fX2_basinToTake σ13 o (6 * (σ13 o 1))) fun r29 =>
    k15 r29
    else
    tl_o1 (fX2_basinToGive σ13 o (6 * (σ13 o 1))) fun r30 =>
    k15 r30
def fX2_makeTurn (σ : tl_St) (o : Nat) : Option tl_St :=
  tl_bnd (fun (x1 : Int32) =>
  tl_bnd (fun (x3 : Int32) =>
  tl_o1 (fJ7_fill_53178 σ (o + 8) 4 0) fun σ5 =>
  tl_bnd (tl_set σ5 o 12 0) fun σ6 =>
  tl_bnd (fun (σ7 : tl_St) =>
  tl_o1 (fX2_loseByLeaks σ7 o) fun σ9 =>
  some σ9) fun (k8 : tl_St → Option tl_St) =>
  fX2_makeTurn_L38 o x1 x3 k8 1000 σ6 0) fun (k4 : Int32 → Option tl_St) =>
  if x1 = 0 then
  k4 (-1)
  else
  k4 1) fun (k2 : Int32 → Option tl_St) =>
  if (σ o 1) = 0 then
  k2 1
  else
  k2 0
def fX2_drawnBy_L5 (o : Nat) (a1 : Int32) (a2 : Int32) (k3 : tl_St → Int32 → Option (Int32 × tl_St)) : Nat → tl_St → Int32 → Int32 → Option (Int32 × tl_St)
  | 0, _, _, _ => none
  | n + 1, σ4, x5, x6 =>
    if a1 ≤ x6 then
    k3 σ4 x5
    else
    if a2 ≤ x5 then
    k3 σ4 x5
    else
    tl_bnd (fun (x9 : Int32) =>
    tl_o1 (fX2_makeTurn σ4 o) fun σ11 =>
    if x9 = 0 then
    tl_bnd (x6 + 1) fun x13 =>
    fX2_drawnBy_L5 o a1 a2 k3 n σ11 x5 x13
    else
    tl_bnd ((x5 + (σ11 o 12))) fun x14 =>
    tl_bnd (x6 + 1) fun x15 =>
    fX2_drawnBy_L5 o a1 a2 k3 n σ11 x14 x15) fun (k10 : Int32 → Option (Int32 × tl_St)) =>
    if (σ4 o 1) = 0 then
    k10 1
    else
    k10 0
def fX2_drawnBy (σ : tl_St) (o : Nat) (a1 : Int32) (a2 : Int32) : Option (Int32 × tl_St) :=
  tl_bnd (fun (σ1 : tl_St) (x2 : Int32) =>
  some (x2, σ1)) fun (k3 : tl_St → Int32 → Option (Int32 × tl_St)) =>
  fX2_drawnBy_L5 o a1 a2 k3 1000 σ 0 0
def fX3_head (σ : tl_St) (a1 : Int32) : (Int32 × tl_St) :=
  if a1 < 1 then
  ((-2), σ)
  else
  if a1 ≤ 60 then
  if (σ 1 1) = 0 then
  tl_bnd ((σ 1 0)) fun x4 =>
  tl_bnd (tl_set σ 1 0 a1) fun σ5 =>
  (x4, σ5)
  else
  ((-3), σ)
  else
  ((-2), σ)
def fX3_mayBeBasin (σ : tl_St) (a1 : Int32) (a2 : Int32) (a3 : Int32) : Int32 :=
  tl_bnd (
  0) fun (k1 : Int32) =>
  if a1 < 0 then
  k1
  else
  if 60 ≤ a1 then
  k1
  else
  if a2 < 1 then
  k1
  else
  if 60 < a2 then
  k1
  else
  if a3 < 1 then
  k1
  else
  if 3 < a3 then
  k1
  else
  1
theorem bX3_mayBeBasin (σ : tl_St) (a1 : Int32) (a2 : Int32) (a3 : Int32) : tl_isb (fX3_mayBeBasin σ a1 a2 a3) := by
  unfold fX3_mayBeBasin
  try simp only [tl_bnd]
  repeat (first | exact Or.inl rfl | exact Or.inr rfl | split)
def fX3_basin (σ : tl_St) (a1 : Int32) (a2 : Int32) (a3 : Int32) : Option (Int32 × tl_St) :=
  tl_bnd (fX3_mayBeBasin σ a1 a2 a3) fun r1 =>
  if r1 = 0 then
  some ((-2), σ)
  else
  if (σ 1 2) < 4 then
  tl_o1 (fX2_addBasin σ 1 a1 a2 a3) fun σ4 =>
  some ((σ4 1 2), σ4)
  else
  some ((-4), σ)
def fX3_back (σ : tl_St) : Option (Int32 × tl_St) :=
  tl_bnd (((σ 1 2) - 1)) fun x1 =>
  if x1 < 0 then
  some ((-3), σ)
  else
  if tl_in x1 4 then
  if (σ (1 + 6) x1.toNatClampNeg) = 0 then
  tl_bnd (tl_set σ 1 2 x1) fun σ5 =>
  tl_bnd (tl_set σ5 1 3 ((σ5 1 3) &&& ((1 <<< (x1 &&& 31)) ^^^ (-1)))) fun σ6 =>
  some (x1, σ6)
  else
  some ((-3), σ)
  else none
def fX3_isBasin (σ : tl_St) (a1 : Int32) : Int32 :=
  tl_bnd (
  0) fun (k1 : Int32) =>
  if a1 < 0 then
  k1
  else
  if (σ 1 2) ≤ a1 then
  k1
  else
  1
theorem bX3_isBasin (σ : tl_St) (a1 : Int32) : tl_isb (fX3_isBasin σ a1) := by
  unfold fX3_isBasin
  try simp only [tl_bnd]
  repeat (first | exact Or.inl rfl | exact Or.inr rfl | split)
def fX3_out (σ : tl_St) (a1 : Int32) : (Int32 × tl_St) :=
  tl_bnd (fX3_isBasin σ a1) fun r1 =>
  if r1 = 0 then
  ((-2), σ)
  else
  tl_bnd (tl_set σ 1 3 ((σ 1 3) ^^^ (1 <<< (a1 &&& 31)))) fun σ3 =>
  ((σ3 1 3), σ3)
def fX3_leak (σ : tl_St) (a1 : Int32) (a2 : Int32) : Option (Int32 × tl_St) :=
  tl_bnd (fX3_isBasin σ a1) fun r1 =>
  if r1 = 0 then
  some ((-2), σ)
  else
  if a2 < 0 then
  some ((-2), σ)
  else
  if a2 ≤ 3 then
  if tl_in a1 4 then
  tl_bnd ((σ (1 + 5) a1.toNatClampNeg)) fun x6 =>
  if tl_in a1 4 then
  tl_bnd (tl_set σ (1 + 5) (a1.toNatClampNeg) a2) fun σ8 =>
  some (x6, σ8)
  else none
  else none
  else
  some ((-2), σ)
def fX3_isSheet (σ : tl_St) (a1 : Int32) : Int32 :=
  tl_bnd (
  0) fun (k1 : Int32) =>
  if a1 < 0 then
  k1
  else
  if 4 ≤ a1 then
  k1
  else
  1
theorem bX3_isSheet (σ : tl_St) (a1 : Int32) : tl_isb (fX3_isSheet σ a1) := by
  unfold fX3_isSheet
  try simp only [tl_bnd]
  repeat (first | exact Or.inl rfl | exact Or.inr rfl | split)
def fX3_found (σ : tl_St) (a1 : Int32) : (Int32 × tl_St) :=
  tl_bnd (tl_set σ 0 12 a1) fun σ1 =>
  (((-10) - a1), σ1)
def fX3_read_L35 (o4 : Nat) (k8 : tl_St → Int32 → Option (Int32 × tl_St)) : Nat → tl_St → Int32 → Int32 → Option (Int32 × tl_St)
  | 0, _, _, _ => none
  | n + 1, σ9, x10, x11 =>
    if (σ9 o4 2) ≤ (x11 + 2) then
    k8 σ9 x10
    else
    if 4 ≤ (σ9 1 2) then
    k8 σ9 x10
    else
    if tl_in x11 60 then
    if tl_in (x11 + 1) 60 then
    if tl_in (x11 + 2) 60 then
    tl_bnd (fX3_mayBeBasin σ9 (σ9 (o4 + 1) x11.toNatClampNeg) (σ9 (o4 + 1) (x11 + 1).toNatClampNeg) (σ9 (o4 + 1) (x11 + 2).toNatClampNeg)) fun r17 =>
    if r17 = 0 then
    k8 σ9 x10
    else
    if tl_in x11 60 then
    if tl_in (x11 + 1) 60 then
    if tl_in (x11 + 2) 60 then
    tl_o1 (fX2_addBasin σ9 1 (σ9 (o4 + 1) x11.toNatClampNeg) (σ9 (o4 + 1) (x11 + 1).toNatClampNeg) (σ9 (o4 + 1) (x11 + 2).toNatClampNeg)) fun σ22 =>
    tl_bnd (x10 + 1) fun x23 =>
    tl_bnd (x11 + 3) fun x24 =>
    fX3_read_L35 o4 k8 n σ22 x23 x24
    else none
    else none
    else none
    else none
    else none
    else none
def fX3_read (σ : tl_St) (a1 : Int32) : Option (Int32 × tl_St) :=
  tl_bnd (fX3_isSheet σ a1) fun r1 =>
  if r1 = 0 then
  some ((-2), σ)
  else
  if tl_in a1 4 then
  tl_bnd (25 + 2 * a1.toNatClampNeg) fun o4 =>
  if (σ o4 0) = 0 then
  tl_bnd (fun (σ6 : tl_St) (x7 : Int32) =>
  some (x7, σ6)) fun (k8 : tl_St → Int32 → Option (Int32 × tl_St)) =>
  fX3_read_L35 o4 k8 1000 σ 0 0
  else
  tl_b2 (fX3_found σ 1) fun r25 σ26 =>
  some (r25, σ26)
  else none
def fX3_info (σ : tl_St) (a1 : Int32) (a2 : Int32) : Option Int32 :=
  tl_bnd (fX3_isBasin σ a1) fun r1 =>
  if r1 = 0 then
  some (-2)
  else
  if a2 = 0 then
  if tl_in a1 4 then
  some (σ (1 + 1) a1.toNatClampNeg)
  else none
  else
  if a2 = 1 then
  if tl_in a1 4 then
  some (σ (1 + 2) a1.toNatClampNeg)
  else none
  else
  if a2 = 2 then
  if tl_in a1 4 then
  some (σ (1 + 3) a1.toNatClampNeg)
  else none
  else
  if a2 = 3 then
  if tl_in a1 4 then
  some (σ (1 + 5) a1.toNatClampNeg)
  else none
  else
  if a2 = 4 then
  if tl_in a1 4 then
  some (σ (1 + 6) a1.toNatClampNeg)
  else none
  else
  if a2 = 5 then
  if tl_in a1 4 then
  tl_o1 (fX2_levelHolding σ 1 a1 (σ (1 + 6) a1.toNatClampNeg)) fun r15 =>
  some r15
  else none
  else
  if a2 = 6 then
  tl_bnd (fX2_isOut σ 1 a1) fun r17 =>
  if r17 = 0 then
  some 0
  else
  some 1
  else
  some (-2)
def fX3_chamber (σ : tl_St) (a1 : Int32) : Int32 :=
  if a1 = 0 then
  (σ 1 1)
  else
  if a1 = 1 then
  (6 * (σ 1 1))
  else
  if a1 = 2 then
  (σ 1 0)
  else
  (-2)
def fX3_isWay (σ : tl_St) (a1 : Int32) : Int32 :=
  tl_bnd (
  1) fun (k1 : Int32) =>
  if a1 = 0 then
  k1
  else
  if a1 = 1 then
  k1
  else
  0
theorem bX3_isWay (σ : tl_St) (a1 : Int32) : tl_isb (fX3_isWay σ a1) := by
  unfold fX3_isWay
  try simp only [tl_bnd]
  repeat (first | exact Or.inl rfl | exact Or.inr rfl | split)
def fX3_boat (σ : tl_St) (a1 : Int32) : Option (Int32 × tl_St) :=
  tl_bnd (fX3_isWay σ a1) fun r1 =>
  if r1 = 0 then
  some ((-2), σ)
  else
  if tl_in a1 2 then
  tl_bnd (20 + 2 * a1.toNatClampNeg) fun o4 =>
  if 16 ≤ (σ o4 1) then
  some ((-4), σ)
  else
  if (σ 0 10) < 100 then
  tl_bnd ((σ 0 10)) fun x7 =>
  if tl_in a1 2 then
  tl_bnd (20 + 2 * a1.toNatClampNeg) fun o9 =>
  tl_o1 (fX0_append σ o9 x7) fun σ10 =>
  tl_bnd (tl_set σ10 0 10 ((σ10 0 10) + 1)) fun σ11 =>
  some (x7, σ11)
  else none
  else
  some ((-4), σ)
  else none
def fX3_leave_L9 (σ : tl_St) (a1 : Int32) (k2 : Option (Int32 × tl_St)) : Nat → Int32 → Option (Int32 × tl_St)
  | 0, _ => none
  | n + 1, x3 =>
    if 1 < x3 then
    k2
    else
    if tl_in x3 2 then
    tl_bnd (20 + 2 * x3.toNatClampNeg) fun o6 =>
    tl_o1 (fX0_placeOf σ o6 a1) fun r7 =>
    if r7 = (-1) then
    tl_bnd (x3 + 1) fun x9 =>
    fX3_leave_L9 σ a1 k2 n x9
    else
    if tl_in x3 2 then
    tl_bnd (20 + 2 * x3.toNatClampNeg) fun o11 =>
    tl_o1 (fX0_removeAt σ o11 r7) fun σ12 =>
    if tl_in x3 2 then
    tl_bnd (20 + 2 * x3.toNatClampNeg) fun o14 =>
    some ((σ12 o14 1), σ12)
    else none
    else none
    else none
def fX3_leave (σ : tl_St) (a1 : Int32) : Option (Int32 × tl_St) :=
  if 0 ≤ a1 then
  tl_bnd (
  some ((-3), σ)) fun (k2 : Option (Int32 × tl_St)) =>
  fX3_leave_L9 σ a1 k2 1000 0
  else
  some ((-2), σ)
def fX3_waits (σ : tl_St) (a1 : Int32) (a2 : Int32) : Option Int32 :=
  tl_bnd (fX3_isWay σ a1) fun r1 =>
  if r1 = 0 then
  some (-2)
  else
  if a2 < (-1) then
  some (-2)
  else
  if a2 < 16 then
  if a2 = (-1) then
  if tl_in a1 2 then
  tl_bnd (20 + 2 * a1.toNatClampNeg) fun o10 =>
  some (σ o10 1)
  else none
  else
  if tl_in a1 2 then
  tl_bnd (20 + 2 * a1.toNatClampNeg) fun o7 =>
  tl_o1 (fX0_boatAt σ o7 a2) fun r8 =>
  some r8
  else none
  else
  some (-2)
def fX3_rule (σ : tl_St) (a1 : Int32) : (Int32 × tl_St) :=
  tl_bnd (
  tl_bnd ((σ 0 11)) fun x2 =>
  tl_bnd (tl_set σ 0 11 a1) fun σ3 =>
  (x2, σ3)) fun (k1 : (Int32 × tl_St)) =>
  if a1 = 0 then
  k1
  else
  if a1 = 1 then
  k1
  else
  ((-2), σ)
def fX3_wayAtChamber (σ : tl_St) : Int32 :=
  if (σ 1 1) = 0 then
  1
  else
  0
def fX3_wayServedNext (σ : tl_St) : Option Int32 :=
  tl_o1 (fX0_boatAt σ 20 0) fun r1 =>
  tl_o1 (fX0_boatAt σ 22 0) fun r2 =>
  if r1 = (-1) then
  if r2 = (-1) then
  some (-1)
  else
  some 1
  else
  if r2 = (-1) then
  some 0
  else
  if (σ 0 11) = 1 then
  tl_bnd (fX3_wayAtChamber σ) fun r7 =>
  some r7
  else
  if r2 ≤ r1 then
  some 1
  else
  some 0
def fX3_turnsToServe (σ : tl_St) (a1 : Int32) : Int32 :=
  tl_bnd (fX3_wayAtChamber σ) fun r1 =>
  if a1 = r1 then
  1
  else
  2
def fX3_enterTurn_L88 (x1 : Int32) (k15 : tl_St → Option tl_St) : Nat → tl_St → Int32 → Option tl_St
  | 0, _, _ => none
  | n + 1, σ17, x18 =>
    if 4 ≤ x18 then
    k15 σ17
    else
    if tl_in x18 4 then
    if tl_in ((x1 + 5) + x18) 540 then
    tl_bnd (tl_set σ17 33 (((x1 + 5) + x18).toNatClampNeg) (σ17 (1 + 8) x18.toNatClampNeg)) fun σ22 =>
    tl_bnd (x18 + 1) fun x23 =>
    fX3_enterTurn_L88 x1 k15 n σ22 x23
    else none
    else none
def fX3_enterTurn (σ : tl_St) (a1 : Int32) (a2 : Int32) : Option tl_St :=
  tl_bnd (((σ 0 5) * 9)) fun x1 =>
  if tl_in x1 540 then
  tl_bnd (tl_set σ 33 (x1.toNatClampNeg) a1) fun σ3 =>
  tl_bnd (fun (x4 : Int32) =>
  if tl_in (x1 + 1) 540 then
  tl_bnd (tl_set σ3 33 ((x1 + 1).toNatClampNeg) x4) fun σ7 =>
  if tl_in (x1 + 2) 540 then
  tl_bnd (tl_set σ7 33 ((x1 + 2).toNatClampNeg) ((σ7 1 0) - (σ7 1 12))) fun σ9 =>
  if tl_in (x1 + 3) 540 then
  tl_bnd (tl_set σ9 33 ((x1 + 3).toNatClampNeg) (σ9 1 12)) fun σ11 =>
  if tl_in (x1 + 4) 540 then
  tl_bnd (tl_set σ11 33 ((x1 + 4).toNatClampNeg) (σ11 1 13)) fun σ13 =>
  tl_bnd (fun (σ14 : tl_St) =>
  tl_bnd (tl_set σ14 0 5 ((σ14 0 5) + 1)) fun σ16 =>
  some σ16) fun (k15 : tl_St → Option tl_St) =>
  fX3_enterTurn_L88 x1 k15 1000 σ13 0
  else none
  else none
  else none
  else none) fun (k5 : Int32 → Option tl_St) =>
  if a2 = 0 then
  k5 0
  else
  k5 1
  else none
def fX3_makeTurnFor (σ : tl_St) (a1 : Int32) : Option tl_St :=
  tl_bnd (fun (x1 : Int32) =>
  tl_o1 (fX2_makeTurn σ 1) fun σ3 =>
  tl_bnd (fun (σ4 : tl_St) =>
  tl_bnd (tl_set σ4 0 9 ((σ4 0 9) + (σ4 1 13))) fun σ6 =>
  tl_bnd (tl_set σ6 0 6 ((σ6 0 6) + 1)) fun σ7 =>
  if 60 ≤ (σ7 0 5) then
  some σ7
  else
  tl_o1 (fX3_enterTurn σ7 a1 x1) fun σ9 =>
  some σ9) fun (k5 : tl_St → Option tl_St) =>
  if x1 = 0 then
  tl_bnd (tl_set σ3 0 8 ((σ3 0 8) + (σ3 1 12))) fun σ11 =>
  k5 σ11
  else
  tl_bnd (tl_set σ3 0 7 ((σ3 0 7) + (σ3 1 12))) fun σ12 =>
  k5 σ12) fun (k2 : Int32 → Option tl_St) =>
  if (σ 1 1) = 0 then
  k2 1
  else
  k2 0
def fX3_serve (σ : tl_St) : Option (Int32 × tl_St) :=
  tl_o1 (fX3_wayServedNext σ) fun r1 =>
  if r1 = (-1) then
  some ((-3), σ)
  else
  tl_bnd (fX3_turnsToServe σ r1) fun r3 =>
  if ((σ 0 5) + r3) ≤ 60 then
  tl_bnd (fun (σ5 : tl_St) =>
  if tl_in r1 2 then
  tl_bnd (20 + 2 * r1.toNatClampNeg) fun o8 =>
  tl_o1 (fX0_boatAt σ5 o8 0) fun r9 =>
  if tl_in r1 2 then
  tl_bnd (20 + 2 * r1.toNatClampNeg) fun o11 =>
  tl_o1 (fX0_removeAt σ5 o11 0) fun σ12 =>
  tl_o1 (fX3_makeTurnFor σ12 r9) fun σ13 =>
  some (r9, σ13)
  else none
  else none) fun (k6 : tl_St → Option (Int32 × tl_St)) =>
  if r3 = 2 then
  tl_o1 (fX3_makeTurnFor σ (-1)) fun σ15 =>
  k6 σ15
  else
  k6 σ
  else
  some ((-4), σ)
def fX3_next (σ : tl_St) (a1 : Int32) : Option Int32 :=
  tl_bnd (
  tl_o1 (fX3_wayServedNext σ) fun r2 =>
  if r2 = (-1) then
  if a1 = 0 then
  some (-1)
  else
  some 0
  else
  if a1 = 0 then
  if tl_in r2 2 then
  tl_bnd (20 + 2 * r2.toNatClampNeg) fun o7 =>
  tl_o1 (fX0_boatAt σ o7 0) fun r8 =>
  some r8
  else none
  else
  tl_bnd (fX3_turnsToServe σ r2) fun r5 =>
  some r5) fun (k1 : Option Int32) =>
  if a1 = 0 then
  k1
  else
  if a1 = 1 then
  k1
  else
  some (-2)
def fX3_turn (σ : tl_St) : Option (Int32 × tl_St) :=
  if (σ 0 5) < 60 then
  tl_o1 (fX3_makeTurnFor σ (-1)) fun σ2 =>
  some ((σ2 1 12), σ2)
  else
  some ((-4), σ)
def fX3_ledger (σ : tl_St) (a1 : Int32) (a2 : Int32) : Option Int32 :=
  if a1 < 0 then
  some (-2)
  else
  if (σ 0 5) ≤ a1 then
  some (-2)
  else
  if a2 < 0 then
  some (-2)
  else
  if a2 < 9 then
  if tl_in ((a1 * 9) + a2) 540 then
  some (σ 33 ((a1 * 9) + a2).toNatClampNeg)
  else none
  else
  some (-2)
def fX3_wipe (σ : tl_St) : (Int32 × tl_St) :=
  tl_bnd ((σ 0 5)) fun x1 =>
  tl_bnd (tl_set σ 0 5 0) fun σ2 =>
  (x1, σ2)
def fX3_total (σ : tl_St) (a1 : Int32) : Option Int32 :=
  if a1 = 0 then
  some (σ 0 7)
  else
  if a1 = 1 then
  some (σ 0 8)
  else
  if a1 = 2 then
  some (σ 0 9)
  else
  if a1 = 3 then
  tl_o1 (fX2_heldInAll σ 1) fun r5 =>
  some r5
  else
  if a1 = 4 then
  some (σ 0 6)
  else
  some (-2)
def fX3_tryTurn (σ : tl_St) : Option tl_St :=
  tl_o1 (fX2_becomeLike σ 10 1) fun σ1 =>
  tl_o1 (fX2_makeTurn σ1 10) fun σ2 =>
  some σ2
def fX3_step (σ : tl_St) (a1 : Int32) : Option (Int32 × tl_St) :=
  if a1 < (-1) then
  some ((-2), σ)
  else
  if a1 < 60 then
  if a1 = (-1) then
  some ((σ 1 0), σ)
  else
  if a1 < (σ 1 0) then
  tl_o1 (fX3_tryTurn σ) fun σ5 =>
  if tl_in a1 60 then
  some ((σ5 (10 + 7) a1.toNatClampNeg), σ5)
  else none
  else
  some ((-1), σ)
  else
  some ((-2), σ)
def fX3_ahead (σ : tl_St) (a1 : Int32) : Option (Int32 × tl_St) :=
  if a1 < 0 then
  some ((-2), σ)
  else
  if a1 ≤ 40 then
  tl_o1 (fX2_becomeLike σ 10 1) fun σ3 =>
  tl_o2 (fX2_drawnBy σ3 10 a1 1000000) fun r4 σ5 =>
  some (r4, σ5)
  else
  some ((-2), σ)
def fX3_choiceOf (σ : tl_St) (a1 : Int32) (a2 : Int32) : Int32 :=
  ((a2 <<< (6 &&& 31)) ||| a1)
def fX3_bestBottom_L8 (a1 : Int32) (k3 : tl_St → Int32 → Option (Int32 × tl_St)) : Nat → tl_St → Int32 → Int32 → Int32 → Option (Int32 × tl_St)
  | 0, _, _, _, _ => none
  | n + 1, σ4, x5, x6, x7 =>
    if 60 ≤ x7 then
    k3 σ4 x5
    else
    tl_o1 (fX2_becomeLike σ4 10 1) fun σ9 =>
    if tl_in a1 4 then
    tl_bnd (tl_set σ9 (10 + 1) (a1.toNatClampNeg) x7) fun σ11 =>
    tl_o2 (fX2_drawnBy σ11 10 10 x6) fun r12 σ13 =>
    if x6 ≤ r12 then
    tl_bnd (x7 + 1) fun x15 =>
    fX3_bestBottom_L8 a1 k3 n σ13 x5 x6 x15
    else
    tl_bnd (fX3_choiceOf σ13 x7 r12) fun r16 =>
    tl_bnd (x7 + 1) fun x17 =>
    fX3_bestBottom_L8 a1 k3 n σ13 r16 r12 x17
    else none
def fX3_bestBottom (σ : tl_St) (a1 : Int32) : Option (Int32 × tl_St) :=
  tl_bnd (fun (σ1 : tl_St) (x2 : Int32) =>
  some (x2, σ1)) fun (k3 : tl_St → Int32 → Option (Int32 × tl_St)) =>
  fX3_bestBottom_L8 a1 k3 1000 σ (-1) 1000000 0
def fX3_partOfChoice (σ : tl_St) (a1 : Int32) (a2 : Int32) : Int32 :=
  if a1 = (-1) then
  (-1)
  else
  if a2 = 0 then
  (a1 &&& 63)
  else
  (a1 >>> (6 &&& 31))
def fX3_better (σ : tl_St) (a1 : Int32) (a2 : Int32) : Option (Int32 × tl_St) :=
  tl_bnd (fX3_isBasin σ a1) fun r1 =>
  if r1 = 0 then
  some ((-2), σ)
  else
  if a2 < 0 then
  some ((-2), σ)
  else
  if a2 ≤ 1 then
  tl_o2 (fX3_bestBottom σ a1) fun r5 σ6 =>
  tl_bnd (fX3_partOfChoice σ6 r5 a2) fun r7 =>
  some (r7, σ6)
  else
  some ((-2), σ)
def fX3_leastNeeded_L7 (k3 : tl_St → Int32 → Option (Int32 × tl_St)) : Nat → tl_St → Int32 → Int32 → Int32 → Option (Int32 × tl_St)
  | 0, _, _, _, _ => none
  | n + 1, σ4, x5, x6, x7 =>
    if (σ4 1 2) ≤ x7 then
    k3 σ4 x5
    else
    tl_bnd (fX2_isOut σ4 1 x7) fun r9 =>
    if r9 = 0 then
    tl_o1 (fX2_becomeLike σ4 10 1) fun σ11 =>
    tl_bnd (tl_set σ11 10 3 ((σ11 10 3) ||| (1 <<< (x7 &&& 31)))) fun σ12 =>
    tl_o2 (fX2_drawnBy σ12 10 10 x6) fun r13 σ14 =>
    if x6 ≤ r13 then
    tl_bnd (x7 + 1) fun x16 =>
    fX3_leastNeeded_L7 k3 n σ14 x5 x6 x16
    else
    tl_bnd (fX3_choiceOf σ14 x7 r13) fun r17 =>
    tl_bnd (x7 + 1) fun x18 =>
    fX3_leastNeeded_L7 k3 n σ14 r17 r13 x18
    else
    tl_bnd (x7 + 1) fun x19 =>
    fX3_leastNeeded_L7 k3 n σ4 x5 x6 x19
def fX3_leastNeeded (σ : tl_St) : Option (Int32 × tl_St) :=
  tl_bnd (fun (σ1 : tl_St) (x2 : Int32) =>
  some (x2, σ1)) fun (k3 : tl_St → Int32 → Option (Int32 × tl_St)) =>
  fX3_leastNeeded_L7 k3 1000 σ (-1) 1000000 0
def fX3_needless (σ : tl_St) (a1 : Int32) : Option (Int32 × tl_St) :=
  if a1 < 0 then
  some ((-2), σ)
  else
  if a1 ≤ 1 then
  tl_o2 (fX3_leastNeeded σ) fun r3 σ4 =>
  tl_bnd (fX3_partOfChoice σ4 r3 a1) fun r5 =>
  some (r5, σ4)
  else
  some ((-2), σ)
def fX3_isForm (σ : tl_St) (a1 : Int32) : Int32 :=
  tl_bnd (
  0) fun (k1 : Int32) =>
  if a1 < 0 then
  k1
  else
  if 3 ≤ a1 then
  k1
  else
  1
theorem bX3_isForm (σ : tl_St) (a1 : Int32) : tl_isb (fX3_isForm σ a1) := by
  unfold fX3_isForm
  try simp only [tl_bnd]
  repeat (first | exact Or.inl rfl | exact Or.inr rfl | split)
def fX3_sheet (σ : tl_St) (a1 : Int32) (a2 : Int32) (a3 : Int32) : Option (Int32 × tl_St) :=
  tl_bnd (fX3_isSheet σ a1) fun r1 =>
  if r1 = 0 then
  some ((-2), σ)
  else
  tl_bnd (fX3_isForm σ a2) fun r3 =>
  if r3 = 0 then
  some ((-2), σ)
  else
  if a3 ≤ 60 then
  if 0 ≤ a3 then
  if tl_in a1 4 then
  tl_bnd (25 + 2 * a1.toNatClampNeg) fun o8 =>
  tl_o1 (fX1_renew σ o8 a2 a3) fun σ9 =>
  some (a3, σ9)
  else none
  else
  tl_b2 (fX3_found σ 5) fun r10 σ11 =>
  some (r10, σ11)
  else
  some ((-2), σ)
def fX3_lose (σ : tl_St) (a1 : Int32) : Option (Int32 × tl_St) :=
  tl_bnd (fX3_isSheet σ a1) fun r1 =>
  if r1 = 0 then
  some ((-2), σ)
  else
  if tl_in a1 4 then
  tl_bnd (25 + 2 * a1.toNatClampNeg) fun o4 =>
  if (σ o4 0) = 0 then
  if tl_in a1 4 then
  tl_bnd (25 + 2 * a1.toNatClampNeg) fun o7 =>
  tl_bnd (tl_set σ o7 0 1) fun σ8 =>
  if tl_in a1 4 then
  tl_bnd (25 + 2 * a1.toNatClampNeg) fun o10 =>
  some ((σ8 o10 2), σ8)
  else none
  else none
  else
  tl_b2 (fX3_found σ 1) fun r11 σ12 =>
  some (r11, σ12)
  else none
def fX3_lay (σ : tl_St) (a1 : Int32) (a2 : Int32) (a3 : Int32) (a4 : Int32) : Option (Int32 × tl_St) :=
  tl_bnd (fX3_isSheet σ a1) fun r1 =>
  if r1 = 0 then
  some ((-2), σ)
  else
  tl_bnd (fX3_isForm σ a2) fun r3 =>
  if r3 = 0 then
  some ((-2), σ)
  else
  if tl_in a1 4 then
  tl_bnd (25 + 2 * a1.toNatClampNeg) fun o6 =>
  tl_bnd (fX1_faultAt σ o6 a2 a3) fun r7 =>
  if r7 = 0 then
  if tl_in a1 4 then
  tl_bnd (25 + 2 * a1.toNatClampNeg) fun o10 =>
  tl_o1 (fX1_put σ o10 a3 a4) fun σ11 =>
  some (1, σ11)
  else none
  else
  tl_b2 (fX3_found σ r7) fun r12 σ13 =>
  some (r12, σ13)
  else none
def fX3_get (σ : tl_St) (a1 : Int32) (a2 : Int32) (a3 : Int32) : Option (Int32 × tl_St) :=
  tl_bnd (fX3_isSheet σ a1) fun r1 =>
  if r1 = 0 then
  some ((-2147483648), σ)
  else
  tl_bnd (fX3_isForm σ a2) fun r3 =>
  if r3 = 0 then
  some ((-2147483648), σ)
  else
  if tl_in a1 4 then
  tl_bnd (25 + 2 * a1.toNatClampNeg) fun o6 =>
  tl_bnd (fX1_faultAt σ o6 a2 a3) fun r7 =>
  if r7 = 0 then
  if tl_in a1 4 then
  tl_bnd (25 + 2 * a1.toNatClampNeg) fun o10 =>
  if tl_in a3 60 then
  some ((σ (o10 + 1) a3.toNatClampNeg), σ)
  else none
  else none
  else
  tl_b2 (fX3_found σ r7) fun r12 σ13 =>
  some ((-2147483648), σ13)
  else none
def fX3_copy (σ : tl_St) (a1 : Int32) (a2 : Int32) (a3 : Int32) (a4 : Int32) (a5 : Int32) : Option (Int32 × tl_St) :=
  tl_bnd (fX3_isSheet σ a1) fun r1 =>
  if r1 = 0 then
  some ((-2), σ)
  else
  tl_bnd (fX3_isSheet σ a3) fun r3 =>
  if r3 = 0 then
  some ((-2), σ)
  else
  if tl_in a1 4 then
  tl_bnd (25 + 2 * a1.toNatClampNeg) fun o6 =>
  if tl_in a3 4 then
  tl_bnd (25 + 2 * a3.toNatClampNeg) fun o8 =>
  tl_bnd (
  tl_b2 (fX3_found σ 1) fun r10 σ11 =>
  some (r10, σ11)) fun (k9 : Option (Int32 × tl_St)) =>
  if (σ o6 0) = 0 then
  if (σ o8 0) = 0 then
  if (σ o6 1) = (σ o8 1) then
  tl_bnd (fX1_hasSpan σ o6 a2 a5) fun r15 =>
  tl_bnd (
  tl_b2 (fX3_found σ 2) fun r17 σ18 =>
  some (r17, σ18)) fun (k16 : Option (Int32 × tl_St)) =>
  if r15 = 0 then
  k16
  else
  tl_bnd (fX1_hasSpan σ o8 a4 a5) fun r20 =>
  if r20 = 0 then
  k16
  else
  if tl_cok a2 a4 a5 60 60 then
  tl_bnd (tl_setC σ (o8 + 1) (va_cpy (σ (o6 + 1)) (σ (o8 + 1)) (a2.toNatClampNeg) (a4.toNatClampNeg) (a5.toNatClampNeg))) fun σ23 =>
  some (1, σ23)
  else none
  else
  tl_b2 (fX3_found σ 4) fun r24 σ25 =>
  some (r24, σ25)
  else
  k9
  else
  k9
  else none
  else none
def fX3_write_L52 (o4 : Nat) (x7 : Int32) (k9 : tl_St → Option (Int32 × tl_St)) : Nat → tl_St → Int32 → Option (Int32 × tl_St)
  | 0, _, _ => none
  | n + 1, σ10, x11 =>
    if x7 ≤ x11 then
    k9 σ10
    else
    if tl_in x11 60 then
    tl_o1 (fX1_put σ10 o4 x11 (σ10 (10 + 7) x11.toNatClampNeg)) fun σ14 =>
    tl_bnd (x11 + 1) fun x15 =>
    fX3_write_L52 o4 x7 k9 n σ14 x15
    else none
def fX3_write (σ : tl_St) (a1 : Int32) : Option (Int32 × tl_St) :=
  tl_bnd (fX3_isSheet σ a1) fun r1 =>
  if r1 = 0 then
  some ((-2), σ)
  else
  if tl_in a1 4 then
  tl_bnd (25 + 2 * a1.toNatClampNeg) fun o4 =>
  if (σ o4 0) = 0 then
  tl_o1 (fX3_tryTurn σ) fun σ6 =>
  tl_bnd ((if (σ6 1 0) < (σ6 o4 2) then (σ6 1 0) else (σ6 o4 2))) fun x7 =>
  tl_bnd (fun (σ8 : tl_St) =>
  some (x7, σ8)) fun (k9 : tl_St → Option (Int32 × tl_St)) =>
  fX3_write_L52 o4 x7 k9 1000 σ6 0
  else
  tl_b2 (fX3_found σ 1) fun r16 σ17 =>
  some (r16, σ17)
  else none
def fX3_count (σ : tl_St) (a1 : Int32) : Option Int32 :=
  if a1 = 0 then
  some (σ 1 2)
  else
  if a1 = 1 then
  some ((σ 20 1) + (σ 22 1))
  else
  if a1 = 2 then
  some (σ 0 5)
  else
  if a1 = 3 then
  some (σ 1 1)
  else
  if a1 = 4 then
  tl_o1 (fX2_heldInAll σ 1) fun r6 =>
  some r6
  else
  if a1 = 5 then
  some (σ 0 7)
  else
  if a1 = 6 then
  some (σ 0 8)
  else
  if a1 = 7 then
  some (σ 0 10)
  else
  if a1 = 8 then
  some (σ 0 12)
  else
  some (-2)
def fX3_fold (σ : tl_St) (a1 : Int64) (a2 : Int32) : Int64 :=
  ((31 * a1) + a2.toInt64)
def fX3_foldBasins_L85 (σ1 : tl_St) (k5 : Int64 → Option (Int64 × tl_St)) : Nat → Int64 → Int32 → Option (Int64 × tl_St)
  | 0, _, _ => none
  | n + 1, x6, x7 =>
    if 2 < x7 then
    k5 x6
    else
    tl_bnd (fX3_chamber σ1 x7) fun r9 =>
    tl_bnd (fX3_fold σ1 x6 r9) fun r10 =>
    tl_bnd (x7 + 1) fun x11 =>
    fX3_foldBasins_L85 σ1 k5 n r10 x11
def fX3_foldBasins_L20 (σ12 : tl_St) (x14 : Int32) (k17 : Int64 → Option (Int64 × tl_St)) : Nat → Int64 → Int32 → Option (Int64 × tl_St)
  | 0, _, _ => none
  | n + 1, x25, x26 =>
    if 6 < x26 then
    k17 x25
    else
    tl_o1 (fX3_info σ12 x14 x26) fun r28 =>
    tl_bnd (fX3_fold σ12 x25 r28) fun r29 =>
    tl_bnd (x26 + 1) fun x30 =>
    fX3_foldBasins_L20 σ12 x14 k17 n r29 x30
def fX3_foldBasins_L5 (k3 : tl_St → Int64 → Option (Int64 × tl_St)) : Nat → tl_St → Int64 → Int32 → Option (Int64 × tl_St)
  | 0, _, _, _ => none
  | n + 1, σ12, x13, x14 =>
    if (σ12 1 2) ≤ x14 then
    k3 σ12 x13
    else
    tl_bnd (fun (x16 : Int64) =>
    tl_o2 (fX3_bestBottom σ12 x14) fun r18 σ19 =>
    tl_bnd (fX3_partOfChoice σ19 r18 0) fun r20 =>
    tl_bnd (fX3_fold σ19 x16 r20) fun r21 =>
    tl_bnd (fX3_partOfChoice σ19 r18 1) fun r22 =>
    tl_bnd (fX3_fold σ19 r21 r22) fun r23 =>
    tl_bnd (x14 + 1) fun x24 =>
    fX3_foldBasins_L5 k3 n σ19 r23 x24) fun (k17 : Int64 → Option (Int64 × tl_St)) =>
    fX3_foldBasins_L20 σ12 x14 k17 1000 x13 0
def fX3_foldBasins (σ : tl_St) (a1 : Int64) : Option (Int64 × tl_St) :=
  tl_bnd (fun (σ1 : tl_St) (x2 : Int64) =>
  tl_bnd (fun (x4 : Int64) =>
  some (x4, σ1)) fun (k5 : Int64 → Option (Int64 × tl_St)) =>
  fX3_foldBasins_L85 σ1 k5 1000 x2 0) fun (k3 : tl_St → Int64 → Option (Int64 × tl_St)) =>
  fX3_foldBasins_L5 k3 1000 σ a1 0
def fX3_foldBoats_L5 (σ : tl_St) (k2 : Int64 → Option Int64) : Nat → Int64 → Int32 → Option Int64
  | 0, _, _ => none
  | n + 1, x7, x8 =>
    if 1 < x8 then
    k2 x7
    else
    tl_o1 (fX3_waits σ x8 (-1)) fun r10 =>
    tl_bnd (fX3_fold σ x7 r10) fun r11 =>
    tl_o1 (fX3_waits σ x8 0) fun r12 =>
    tl_bnd (fX3_fold σ r11 r12) fun r13 =>
    tl_o1 (fX3_waits σ x8 3) fun r14 =>
    tl_bnd (fX3_fold σ r13 r14) fun r15 =>
    tl_bnd (x8 + 1) fun x16 =>
    fX3_foldBoats_L5 σ k2 n r15 x16
def fX3_foldBoats (σ : tl_St) (a1 : Int64) : Option Int64 :=
  tl_bnd (fun (x1 : Int64) =>
  tl_o1 (fX3_next σ 0) fun r3 =>
  tl_bnd (fX3_fold σ x1 r3) fun r4 =>
  tl_o1 (fX3_next σ 1) fun r5 =>
  tl_bnd (fX3_fold σ r4 r5) fun r6 =>
  some r6) fun (k2 : Int64 → Option Int64) =>
  fX3_foldBoats_L5 σ k2 1000 a1 0
def fX3_foldTurns_L52 (σ : tl_St) (k4 : Int64 → Option Int64) : Nat → Int64 → Int32 → Option Int64
  | 0, _, _ => none
  | n + 1, x5, x6 =>
    if 4 < x6 then
    k4 x5
    else
    tl_o1 (fX3_total σ x6) fun r8 =>
    tl_bnd (fX3_fold σ x5 r8) fun r9 =>
    tl_bnd (x6 + 1) fun x10 =>
    fX3_foldTurns_L52 σ k4 n r9 x10
def fX3_foldTurns_L17 (σ : tl_St) (x12 : Int32) (k15 : Int64 → Option Int64) : Nat → Int64 → Int32 → Option Int64
  | 0, _, _ => none
  | n + 1, x17, x18 =>
    if 9 ≤ x18 then
    k15 x17
    else
    tl_o1 (fX3_ledger σ x12 x18) fun r20 =>
    tl_bnd (fX3_fold σ x17 r20) fun r21 =>
    tl_bnd (x18 + 1) fun x22 =>
    fX3_foldTurns_L17 σ x12 k15 n r21 x22
def fX3_foldTurns_L5 (σ : tl_St) (k2 : Int64 → Option Int64) : Nat → Int64 → Int32 → Option Int64
  | 0, _, _ => none
  | n + 1, x11, x12 =>
    if (σ 0 5) ≤ x12 then
    k2 x11
    else
    tl_bnd (fun (x14 : Int64) =>
    tl_bnd (x12 + 1) fun x16 =>
    fX3_foldTurns_L5 σ k2 n x14 x16) fun (k15 : Int64 → Option Int64) =>
    fX3_foldTurns_L17 σ x12 k15 1000 x11 0
def fX3_foldTurns (σ : tl_St) (a1 : Int64) : Option Int64 :=
  tl_bnd (fun (x1 : Int64) =>
  tl_bnd (fun (x3 : Int64) =>
  some x3) fun (k4 : Int64 → Option Int64) =>
  fX3_foldTurns_L52 σ k4 1000 x1 0) fun (k2 : Int64 → Option Int64) =>
  fX3_foldTurns_L5 σ k2 1000 a1 0
def fX3_foldWhatWouldBe_L19 (σ2 : tl_St) (k4 : Int64 → Option (Int64 × tl_St)) : Nat → Int64 → Int32 → Option (Int64 × tl_St)
  | 0, _, _ => none
  | n + 1, x20, x21 =>
    if 40 < x21 then
    k4 x20
    else
    tl_bnd (fun (x23 : Int32) =>
    tl_bnd (fX3_fold σ2 x20 x23) fun r25 =>
    tl_bnd (x21 + 1) fun x26 =>
    fX3_foldWhatWouldBe_L19 σ2 k4 n r25 x26) fun (k24 : Int32 → Option (Int64 × tl_St)) =>
    if (σ2 1 0) ≤ x21 then
    k24 (-1)
    else
    if tl_in x21 60 then
    k24 (σ2 (10 + 7) x21.toNatClampNeg)
    else none
def fX3_foldWhatWouldBe (σ : tl_St) (a1 : Int64) : Option (Int64 × tl_St) :=
  tl_bnd (fX3_fold σ a1 (σ 1 0)) fun r1 =>
  tl_o1 (fX3_tryTurn σ) fun σ2 =>
  tl_bnd (fun (x3 : Int64) =>
  tl_o2 (fX3_ahead σ2 1) fun r5 σ6 =>
  tl_bnd (fX3_fold σ6 x3 r5) fun r7 =>
  tl_o2 (fX3_ahead σ6 2) fun r8 σ9 =>
  tl_bnd (fX3_fold σ9 r7 r8) fun r10 =>
  tl_o2 (fX3_ahead σ9 10) fun r11 σ12 =>
  tl_bnd (fX3_fold σ12 r10 r11) fun r13 =>
  tl_o2 (fX3_leastNeeded σ12) fun r14 σ15 =>
  tl_bnd (fX3_partOfChoice σ15 r14 0) fun r16 =>
  tl_bnd (fX3_fold σ15 r13 r16) fun r17 =>
  tl_bnd (fX3_partOfChoice σ15 r14 1) fun r18 =>
  tl_bnd (fX3_fold σ15 r17 r18) fun r19 =>
  some (r19, σ15)) fun (k4 : Int64 → Option (Int64 × tl_St)) =>
  fX3_foldWhatWouldBe_L19 σ2 k4 1000 r1 0
def fX3_digest_L6 (σ : tl_St) (k2 : Int64 → Option (Int64 × tl_St)) : Nat → Int64 → Int32 → Option (Int64 × tl_St)
  | 0, _, _ => none
  | n + 1, x9, x10 =>
    if 7 < x10 then
    k2 x9
    else
    tl_o1 (fX3_count σ x10) fun r12 =>
    tl_bnd (fX3_fold σ x9 r12) fun r13 =>
    tl_bnd (x10 + 1) fun x14 =>
    fX3_digest_L6 σ k2 n r13 x14
def fX3_digest (σ : tl_St) : Option (Int64 × tl_St) :=
  tl_bnd (fun (x1 : Int64) =>
  tl_o2 (fX3_foldBasins σ x1) fun r3 σ4 =>
  tl_o1 (fX3_foldBoats σ4 r3) fun r5 =>
  tl_o1 (fX3_foldTurns σ4 r5) fun r6 =>
  tl_o2 (fX3_foldWhatWouldBe σ4 r6) fun r7 σ8 =>
  some (r7, σ8)) fun (k2 : Int64 → Option (Int64 × tl_St)) =>
  fX3_digest_L6 σ k2 1000 17 0
def fX4_in (σ : tl_St) (a1 : Int64) (a2 : Int64) (a3 : Int64) : Int32 :=
  tl_bnd (
  0) fun (k1 : Int32) =>
  if (lg_cmp a1 a2) < 0 then
  k1
  else
  if 0 < (lg_cmp a1 a3) then
  k1
  else
  1
theorem bX4_in (σ : tl_St) (a1 : Int64) (a2 : Int64) (a3 : Int64) : tl_isb (fX4_in σ a1 a2 a3) := by
  unfold fX4_in
  try simp only [tl_bnd]
  repeat (first | exact Or.inl rfl | exact Or.inr rfl | split)
def fX4_isTwo (σ : tl_St) (a1 : Int32) : Int32 :=
  tl_bnd (fX4_in σ (a1.toInt64) 0 1) fun r1 =>
  r1
theorem bX4_isTwo (σ : tl_St) (a1 : Int32) : tl_isb (fX4_isTwo σ a1) := by
  unfold fX4_isTwo
  try simp only [tl_bnd]
  repeat (first | exact Or.inl rfl | exact Or.inr rfl | exact bX4_in .. | split)
def fX4_isIn (σ : tl_St) (a1 : Int32) (a2 : Int32) : Int32 :=
  if ((a1 >>> (a2 &&& 31)) &&& 1) = 1 then
  1
  else
  0
theorem bX4_isIn (σ : tl_St) (a1 : Int32) (a2 : Int32) : tl_isb (fX4_isIn σ a1 a2) := by
  unfold fX4_isIn
  try simp only [tl_bnd]
  repeat (first | exact Or.inl rfl | exact Or.inr rfl | split)
def fX4_lesser (σ : tl_St) (a1 : Int32) (a2 : Int32) : Int32 :=
  if a2 ≤ a1 then
  a2
  else
  a1
def fX4_greater (σ : tl_St) (a1 : Int32) (a2 : Int32) : Int32 :=
  if a1 ≤ a2 then
  a2
  else
  a1
def fX4_finds (σ : tl_St) (a1 : Int32) : (Int32 × tl_St) :=
  tl_bnd (tl_set σ 34 4 a1) fun σ1 =>
  (((-10) - a1), σ1)
def fX4_isSheet (σ : tl_St) (a1 : Int32) : Int32 :=
  tl_bnd (fX4_in σ (a1.toInt64) 0 3) fun r1 =>
  r1
theorem bX4_isSheet (σ : tl_St) (a1 : Int32) : tl_isb (fX4_isSheet σ a1) := by
  unfold fX4_isSheet
  try simp only [tl_bnd]
  repeat (first | exact Or.inl rfl | exact Or.inr rfl | exact bX4_in .. | split)
def fX4_sheet_L55 (a1 : Int32) (a3 : Int32) (k12 : tl_St → Option (Int32 × tl_St)) : Nat → tl_St → Int32 → Option (Int32 × tl_St)
  | 0, _, _ => none
  | n + 1, σ13, x14 =>
    if a3 ≤ x14 then
    k12 σ13
    else
    if tl_in ((60 * a1) + x14) 240 then
    tl_bnd (tl_set σ13 37 (((60 * a1) + x14).toNatClampNeg) 0) fun σ17 =>
    tl_bnd (x14 + 1) fun x18 =>
    fX4_sheet_L55 a1 a3 k12 n σ17 x18
    else none
def fX4_sheet (σ : tl_St) (a1 : Int32) (a2 : Int32) (a3 : Int32) : Option (Int32 × tl_St) :=
  tl_bnd (fX4_isSheet σ a1) fun r1 =>
  if r1 = 0 then
  some ((-2), σ)
  else
  tl_bnd (fX4_in σ (a2.toInt64) 0 2) fun r3 =>
  if r3 = 0 then
  some ((-2), σ)
  else
  if a3 ≤ 60 then
  if 0 ≤ a3 then
  if tl_in a1 4 then
  tl_bnd (tl_set σ 35 (a1.toNatClampNeg) a2) fun σ8 =>
  if tl_in a1 4 then
  tl_bnd (tl_set σ8 36 (a1.toNatClampNeg) a3) fun σ10 =>
  tl_bnd (fun (σ11 : tl_St) =>
  some (a3, σ11)) fun (k12 : tl_St → Option (Int32 × tl_St)) =>
  fX4_sheet_L55 a1 a3 k12 1000 σ10 0
  else none
  else none
  else
  tl_b2 (fX4_finds σ 5) fun r19 σ20 =>
  some (r19, σ20)
  else
  some ((-2), σ)
def fX4_lose (σ : tl_St) (a1 : Int32) : Option (Int32 × tl_St) :=
  tl_bnd (fX4_isSheet σ a1) fun r1 =>
  if r1 = 0 then
  some ((-2), σ)
  else
  if tl_in a1 4 then
  if 0 ≤ (σ 35 a1.toNatClampNeg) then
  if tl_in a1 4 then
  tl_bnd (tl_set σ 35 (a1.toNatClampNeg) (-1)) fun σ6 =>
  if tl_in a1 4 then
  some ((σ6 36 a1.toNatClampNeg), σ6)
  else none
  else none
  else
  tl_b2 (fX4_finds σ 1) fun r8 σ9 =>
  some (r8, σ9)
  else none
def fX4_lacks (σ : tl_St) (a1 : Int32) (a2 : Int32) (a3 : Int32) : Option (Int32 × tl_St) :=
  if tl_in a1 4 then
  if 0 ≤ (σ 35 a1.toNatClampNeg) then
  if tl_in a1 4 then
  if (σ 35 a1.toNatClampNeg) = a2 then
  if tl_in a1 4 then
  tl_bnd (fX4_in σ (a3.toInt64) 0 (((σ 36 a1.toNatClampNeg) - 1).toInt64)) fun r6 =>
  if r6 = 0 then
  tl_b2 (fX4_finds σ 2) fun r8 σ9 =>
  some (r8, σ9)
  else
  some (0, σ)
  else none
  else
  tl_b2 (fX4_finds σ 3) fun r10 σ11 =>
  some (r10, σ11)
  else none
  else
  tl_b2 (fX4_finds σ 1) fun r12 σ13 =>
  some (r12, σ13)
  else none
def fX4_cut (σ : tl_St) (a1 : Int32) (a2 : Int32) : Int32 :=
  if a1 = 0 then
  a2.toInt8.toInt32
  else
  if a1 = 1 then
  a2.toInt16.toInt32
  else
  a2
def fX4_lay (σ : tl_St) (a1 : Int32) (a2 : Int32) (a3 : Int32) (a4 : Int32) : Option (Int32 × tl_St) :=
  tl_bnd (fX4_isSheet σ a1) fun r1 =>
  if r1 = 0 then
  some ((-2), σ)
  else
  tl_bnd (fX4_in σ (a2.toInt64) 0 2) fun r3 =>
  if r3 = 0 then
  some ((-2), σ)
  else
  tl_o2 (fX4_lacks σ a1 a2 a3) fun r5 σ6 =>
  if r5 = 0 then
  tl_bnd (fX4_cut σ6 a2 a4) fun r8 =>
  if tl_in ((60 * a1) + a3) 240 then
  tl_bnd (tl_set σ6 37 (((60 * a1) + a3).toNatClampNeg) r8) fun σ10 =>
  some (1, σ10)
  else none
  else
  some (r5, σ6)
def fX4_get (σ : tl_St) (a1 : Int32) (a2 : Int32) (a3 : Int32) : Option (Int32 × tl_St) :=
  tl_bnd (fX4_isSheet σ a1) fun r1 =>
  if r1 = 0 then
  some ((-2147483648), σ)
  else
  tl_bnd (fX4_in σ (a2.toInt64) 0 2) fun r3 =>
  if r3 = 0 then
  some ((-2147483648), σ)
  else
  tl_o2 (fX4_lacks σ a1 a2 a3) fun r5 σ6 =>
  if r5 = 0 then
  if tl_in ((60 * a1) + a3) 240 then
  some ((σ6 37 ((60 * a1) + a3).toNatClampNeg), σ6)
  else none
  else
  some ((-2147483648), σ6)
def fX4_copy_L157 (a3 : Int32) (a4 : Int32) (a5 : Int32) (k28 : tl_St → Option (Int32 × tl_St)) : Nat → tl_St → Int32 → Option (Int32 × tl_St)
  | 0, _, _ => none
  | n + 1, σ29, x30 =>
    if a5 ≤ x30 then
    k28 σ29
    else
    if tl_in x30 60 then
    if tl_in (((60 * a3) + a4) + x30) 240 then
    tl_bnd (tl_set σ29 37 ((((60 * a3) + a4) + x30).toNatClampNeg) (σ29 38 x30.toNatClampNeg)) fun σ34 =>
    tl_bnd (x30 + 1) fun x35 =>
    fX4_copy_L157 a3 a4 a5 k28 n σ34 x35
    else none
    else none
def fX4_copy_L120 (a1 : Int32) (a2 : Int32) (a5 : Int32) (k26 : tl_St → Option (Int32 × tl_St)) : Nat → tl_St → Int32 → Option (Int32 × tl_St)
  | 0, _, _ => none
  | n + 1, σ36, x37 =>
    if a5 ≤ x37 then
    k26 σ36
    else
    if tl_in (((60 * a1) + a2) + x37) 240 then
    if tl_in x37 60 then
    tl_bnd (tl_set σ36 38 (x37.toNatClampNeg) (σ36 37 (((60 * a1) + a2) + x37).toNatClampNeg)) fun σ41 =>
    tl_bnd (x37 + 1) fun x42 =>
    fX4_copy_L120 a1 a2 a5 k26 n σ41 x42
    else none
    else none
def fX4_copy (σ : tl_St) (a1 : Int32) (a2 : Int32) (a3 : Int32) (a4 : Int32) (a5 : Int32) : Option (Int32 × tl_St) :=
  tl_bnd (fX4_isSheet σ a1) fun r1 =>
  if r1 = 0 then
  some ((-2), σ)
  else
  tl_bnd (fX4_isSheet σ a3) fun r3 =>
  if r3 = 0 then
  some ((-2), σ)
  else
  if tl_in a1 4 then
  tl_bnd (
  tl_b2 (fX4_finds σ 1) fun r7 σ8 =>
  some (r7, σ8)) fun (k6 : Option (Int32 × tl_St)) =>
  if (σ 35 a1.toNatClampNeg) < 0 then
  k6
  else
  if tl_in a3 4 then
  if 0 ≤ (σ 35 a3.toNatClampNeg) then
  if tl_in a1 4 then
  if tl_in a3 4 then
  if (σ 35 a1.toNatClampNeg) = (σ 35 a3.toNatClampNeg) then
  tl_bnd (
  tl_b2 (fX4_finds σ 2) fun r16 σ17 =>
  some (r16, σ17)) fun (k15 : Option (Int32 × tl_St)) =>
  if a2 < 0 then
  k15
  else
  if a4 < 0 then
  k15
  else
  if a5 < 0 then
  k15
  else
  if tl_in a1 4 then
  if 0 < (lg_cmp (a2.toInt64 + a5.toInt64) ((σ 36 a1.toNatClampNeg).toInt64)) then
  k15
  else
  if tl_in a3 4 then
  if (lg_cmp (a4.toInt64 + a5.toInt64) ((σ 36 a3.toNatClampNeg).toInt64)) ≤ 0 then
  tl_bnd (fun (σ25 : tl_St) =>
  tl_bnd (fun (σ27 : tl_St) =>
  some (1, σ27)) fun (k28 : tl_St → Option (Int32 × tl_St)) =>
  fX4_copy_L157 a3 a4 a5 k28 1000 σ25 0) fun (k26 : tl_St → Option (Int32 × tl_St)) =>
  fX4_copy_L120 a1 a2 a5 k26 1000 σ 0
  else
  k15
  else none
  else none
  else
  tl_b2 (fX4_finds σ 4) fun r43 σ44 =>
  some (r43, σ44)
  else none
  else none
  else
  k6
  else none
  else none
def fX4_head (σ : tl_St) (a1 : Int32) : (Int32 × tl_St) :=
  tl_bnd (fX4_in σ (a1.toInt64) 1 60) fun r1 =>
  if r1 = 0 then
  ((-2), σ)
  else
  if (σ 34 6) = 0 then
  tl_bnd ((σ 34 5)) fun x4 =>
  tl_bnd (tl_set σ 34 5 a1) fun σ5 =>
  (x4, σ5)
  else
  ((-3), σ)
def fX4_basin (σ : tl_St) (a1 : Int32) (a2 : Int32) (a3 : Int32) : Option (Int32 × tl_St) :=
  tl_bnd (fX4_in σ (a1.toInt64) 0 59) fun r1 =>
  if r1 = 0 then
  some ((-2), σ)
  else
  tl_bnd (fX4_in σ (a2.toInt64) 1 60) fun r3 =>
  if r3 = 0 then
  some ((-2), σ)
  else
  tl_bnd (fX4_in σ (a3.toInt64) 1 3) fun r5 =>
  if r5 = 0 then
  some ((-2), σ)
  else
  if (σ 34 7) = 4 then
  some ((-4), σ)
  else
  if tl_in (σ 34 7) 4 then
  tl_bnd (tl_set σ 39 ((σ 34 7).toNatClampNeg) a1) fun σ9 =>
  if tl_in (σ9 34 7) 4 then
  tl_bnd (tl_set σ9 40 ((σ9 34 7).toNatClampNeg) a2) fun σ11 =>
  if tl_in (σ11 34 7) 4 then
  tl_bnd (tl_set σ11 41 ((σ11 34 7).toNatClampNeg) a3) fun σ13 =>
  if tl_in (σ13 34 7) 4 then
  tl_bnd (tl_set σ13 42 ((σ13 34 7).toNatClampNeg) 0) fun σ15 =>
  if tl_in (σ15 34 7) 4 then
  tl_bnd (tl_set σ15 43 ((σ15 34 7).toNatClampNeg) 0) fun σ17 =>
  tl_bnd (tl_set σ17 34 7 ((σ17 34 7) + 1)) fun σ18 =>
  some ((σ18 34 7), σ18)
  else none
  else none
  else none
  else none
  else none
def fX4_back (σ : tl_St) : Option (Int32 × tl_St) :=
  if (σ 34 7) = 0 then
  some ((-3), σ)
  else
  if tl_in ((σ 34 7) - 1) 4 then
  if (σ 43 ((σ 34 7) - 1).toNatClampNeg) ≤ 0 then
  tl_bnd (tl_set σ 34 7 ((σ 34 7) - 1)) fun σ4 =>
  tl_bnd (tl_set σ4 34 13 ((σ4 34 13) &&& ((1 <<< ((σ4 34 7) &&& 31)) ^^^ (-1)))) fun σ5 =>
  some ((σ5 34 7), σ5)
  else
  some ((-3), σ)
  else none
def fX4_isBasin (σ : tl_St) (a1 : Int32) : Int32 :=
  tl_bnd (fX4_in σ (a1.toInt64) 0 (((σ 34 7) - 1).toInt64)) fun r1 =>
  r1
theorem bX4_isBasin (σ : tl_St) (a1 : Int32) : tl_isb (fX4_isBasin σ a1) := by
  unfold fX4_isBasin
  try simp only [tl_bnd]
  repeat (first | exact Or.inl rfl | exact Or.inr rfl | exact bX4_in .. | split)
def fX4_out (σ : tl_St) (a1 : Int32) : (Int32 × tl_St) :=
  tl_bnd (fX4_isBasin σ a1) fun r1 =>
  if r1 = 0 then
  ((-2), σ)
  else
  tl_bnd (tl_set σ 34 13 ((σ 34 13) ^^^ (1 <<< (a1 &&& 31)))) fun σ3 =>
  ((σ3 34 13), σ3)
def fX4_leak (σ : tl_St) (a1 : Int32) (a2 : Int32) : Option (Int32 × tl_St) :=
  tl_bnd (fX4_isBasin σ a1) fun r1 =>
  if r1 = 0 then
  some ((-2), σ)
  else
  tl_bnd (fX4_in σ (a2.toInt64) 0 3) fun r3 =>
  if r3 = 0 then
  some ((-2), σ)
  else
  if tl_in a1 4 then
  tl_bnd ((σ 42 a1.toNatClampNeg)) fun x6 =>
  if tl_in a1 4 then
  tl_bnd (tl_set σ 42 (a1.toNatClampNeg) a2) fun σ8 =>
  some (x6, σ8)
  else none
  else none
def fX4_read_L29 (a1 : Int32) (k7 : tl_St → Int32 → Option (Int32 × tl_St)) : Nat → tl_St → Int32 → Int32 → Option (Int32 × tl_St)
  | 0, _, _, _ => none
  | n + 1, σ8, x9, x10 =>
    if x10 = 0 then
    k7 σ8 x9
    else
    if tl_in a1 4 then
    if (σ8 36 a1.toNatClampNeg) < ((3 * x9) + 3) then
    k7 σ8 x9
    else
    tl_bnd (((60 * a1) + (3 * x9))) fun x14 =>
    if tl_in x14 240 then
    if tl_in (x14 + 1) 240 then
    if tl_in (x14 + 2) 240 then
    tl_o2 (fX4_basin σ8 (σ8 37 x14.toNatClampNeg) (σ8 37 (x14 + 1).toNatClampNeg) (σ8 37 (x14 + 2).toNatClampNeg)) fun r18 σ19 =>
    tl_bnd (fun (x20 : Int32) =>
    tl_bnd (fun (x22 : Int32) =>
    tl_bnd ((x9 + x22)) fun x24 =>
    fX4_read_L29 a1 k7 n σ19 x24 x20) fun (k23 : Int32 → Option (Int32 × tl_St)) =>
    if x20 = 0 then
    k23 0
    else
    k23 1) fun (k21 : Int32 → Option (Int32 × tl_St)) =>
    if r18 < 0 then
    k21 0
    else
    k21 1
    else none
    else none
    else none
    else none
def fX4_read (σ : tl_St) (a1 : Int32) : Option (Int32 × tl_St) :=
  tl_bnd (fX4_isSheet σ a1) fun r1 =>
  if r1 = 0 then
  some ((-2), σ)
  else
  if tl_in a1 4 then
  if 0 ≤ (σ 35 a1.toNatClampNeg) then
  tl_bnd (fun (σ5 : tl_St) (x6 : Int32) =>
  some (x6, σ5)) fun (k7 : tl_St → Int32 → Option (Int32 × tl_St)) =>
  fX4_read_L29 a1 k7 1000 σ 0 1
  else
  tl_b2 (fX4_finds σ 1) fun r27 σ28 =>
  some (r27, σ28)
  else none
def fX4_levelOf (σ : tl_St) (a1 : Int32) (a2 : Int32) : Option Int32 :=
  if tl_in a1 4 then
  if tl_in a1 4 then
  if ¬ (σ 41 a1.toNatClampNeg) = 0 then
  some ((6 * (σ 39 a1.toNatClampNeg)) + ((a2 * 6) / (σ 41 a1.toNatClampNeg)))
  else none
  else none
  else none
def fX4_infoBy (σ : tl_St) (a1 : Int32) (a2 : Int32) : Option Int32 :=
  if a2 = 0 then
  if tl_in a1 4 then
  some (σ 39 a1.toNatClampNeg)
  else none
  else
  if a2 = 1 then
  if tl_in a1 4 then
  some (σ 40 a1.toNatClampNeg)
  else none
  else
  if a2 = 2 then
  if tl_in a1 4 then
  some (σ 41 a1.toNatClampNeg)
  else none
  else
  if a2 = 3 then
  if tl_in a1 4 then
  some (σ 42 a1.toNatClampNeg)
  else none
  else
  if a2 = 4 then
  if tl_in a1 4 then
  some (σ 43 a1.toNatClampNeg)
  else none
  else
  if a2 = 5 then
  if tl_in a1 4 then
  tl_o1 (fX4_levelOf σ a1 (σ 43 a1.toNatClampNeg)) fun r13 =>
  some r13
  else none
  else
  some (((σ 34 13) >>> (a1 &&& 31)) &&& 1)
def fX4_info (σ : tl_St) (a1 : Int32) (a2 : Int32) : Option Int32 :=
  tl_bnd (fX4_isBasin σ a1) fun r1 =>
  tl_bnd (
  some (-2)) fun (k2 : Option Int32) =>
  if r1 = 0 then
  k2
  else
  tl_bnd (fX4_in σ (a2.toInt64) 0 6) fun r4 =>
  if r4 = 0 then
  k2
  else
  tl_o1 (fX4_infoBy σ a1 a2) fun r6 =>
  some r6
def fX4_chamberBy (σ : tl_St) (a1 : Int32) : Int32 :=
  tl_bnd (fun (x1 : Int32) =>
  if a1 = 0 then
  x1
  else
  if a1 = 1 then
  (6 * x1)
  else
  (σ 34 5)) fun (k2 : Int32 → Int32) =>
  if (σ 34 6) = 0 then
  k2 0
  else
  k2 (σ 34 5)
def fX4_chamber (σ : tl_St) (a1 : Int32) : Int32 :=
  tl_bnd (fX4_in σ (a1.toInt64) 0 2) fun r1 =>
  if r1 = 0 then
  (-2)
  else
  tl_bnd (fX4_chamberBy σ a1) fun r3 =>
  r3
def fX4_manyWait_L4 (σ : tl_St) (a1 : Int32) (k2 : Int32 → Option Int32) : Nat → Int32 → Int32 → Option Int32
  | 0, _, _ => none
  | n + 1, x3, x4 =>
    if (σ 34 14) ≤ x4 then
    k2 x3
    else
    if tl_in x4 100 then
    tl_bnd (fun (x7 : Int32) =>
    tl_bnd ((x3 + x7)) fun x9 =>
    tl_bnd (x4 + 1) fun x10 =>
    fX4_manyWait_L4 σ a1 k2 n x9 x10) fun (k8 : Int32 → Option Int32) =>
    tl_bnd (
    k8 0) fun (k11 : Option Int32) =>
    if (σ 45 x4.toNatClampNeg) = 0 then
    k11
    else
    if tl_in x4 100 then
    if (σ 44 x4.toNatClampNeg) = a1 then
    k8 1
    else
    k11
    else none
    else none
def fX4_manyWait (σ : tl_St) (a1 : Int32) : Option Int32 :=
  tl_bnd (fun (x1 : Int32) =>
  some x1) fun (k2 : Int32 → Option Int32) =>
  fX4_manyWait_L4 σ a1 k2 1000 0 0
def fX4_boat (σ : tl_St) (a1 : Int32) : Option (Int32 × tl_St) :=
  tl_bnd (fX4_isTwo σ a1) fun r1 =>
  if r1 = 0 then
  some ((-2), σ)
  else
  if (σ 34 14) = 100 then
  some ((-4), σ)
  else
  tl_o1 (fX4_manyWait σ a1) fun r4 =>
  if r4 = 16 then
  some ((-4), σ)
  else
  if tl_in (σ 34 14) 100 then
  tl_bnd (tl_set σ 44 ((σ 34 14).toNatClampNeg) a1) fun σ7 =>
  if tl_in (σ7 34 14) 100 then
  tl_bnd (tl_set σ7 45 ((σ7 34 14).toNatClampNeg) 1) fun σ9 =>
  tl_bnd (tl_set σ9 34 14 ((σ9 34 14) + 1)) fun σ10 =>
  some (((σ10 34 14) - 1), σ10)
  else none
  else none
def fX4_leave (σ : tl_St) (a1 : Int32) : Option (Int32 × tl_St) :=
  if 0 ≤ a1 then
  if (σ 34 14) ≤ a1 then
  some ((-3), σ)
  else
  if tl_in a1 100 then
  if (σ 45 a1.toNatClampNeg) = 0 then
  some ((-3), σ)
  else
  if tl_in a1 100 then
  tl_bnd (tl_set σ 45 (a1.toNatClampNeg) 0) fun σ6 =>
  if tl_in a1 100 then
  tl_o1 (fX4_manyWait σ6 (σ6 44 a1.toNatClampNeg)) fun r8 =>
  some (r8, σ6)
  else none
  else none
  else none
  else
  some ((-2), σ)
def fX4_waitsBy_L8 (σ : tl_St) (a1 : Int32) (a2 : Int32) (k3 : Int32 → Int32 → Option Int32) : Nat → Int32 → Int32 → Int32 → Option Int32
  | 0, _, _, _ => none
  | n + 1, x5, x6, x7 =>
    if (σ 34 14) ≤ x7 then
    k3 x5 x6
    else
    if tl_in x7 100 then
    if (σ 45 x7.toNatClampNeg) = 0 then
    tl_bnd (x7 + 1) fun x11 =>
    fX4_waitsBy_L8 σ a1 a2 k3 n x5 x6 x11
    else
    if tl_in x7 100 then
    if (σ 44 x7.toNatClampNeg) = a1 then
    tl_bnd (fun (x15 : Int32) =>
    tl_bnd (x5 + 1) fun x17 =>
    tl_bnd (x7 + 1) fun x18 =>
    fX4_waitsBy_L8 σ a1 a2 k3 n x17 x15 x18) fun (k16 : Int32 → Option Int32) =>
    if x5 = a2 then
    k16 x7
    else
    k16 x6
    else
    tl_bnd (x7 + 1) fun x14 =>
    fX4_waitsBy_L8 σ a1 a2 k3 n x5 x6 x14
    else none
    else none
def fX4_waitsBy (σ : tl_St) (a1 : Int32) (a2 : Int32) : Option Int32 :=
  tl_bnd (fun (x1 : Int32) (x2 : Int32) =>
  if a2 = (-1) then
  some x1
  else
  some x2) fun (k3 : Int32 → Int32 → Option Int32) =>
  fX4_waitsBy_L8 σ a1 a2 k3 1000 0 (-1) 0
def fX4_waits (σ : tl_St) (a1 : Int32) (a2 : Int32) : Option Int32 :=
  tl_bnd (fX4_isTwo σ a1) fun r1 =>
  tl_bnd (
  some (-2)) fun (k2 : Option Int32) =>
  if r1 = 0 then
  k2
  else
  tl_bnd (fX4_in σ (a2.toInt64) (-1) 15) fun r4 =>
  if r4 = 0 then
  k2
  else
  tl_o1 (fX4_waitsBy σ a1 a2) fun r6 =>
  some r6
def fX4_rule (σ : tl_St) (a1 : Int32) : (Int32 × tl_St) :=
  tl_bnd (fX4_isTwo σ a1) fun r1 =>
  if r1 = 0 then
  ((-2), σ)
  else
  tl_bnd ((σ 34 17)) fun x3 =>
  tl_bnd (tl_set σ 34 17 a1) fun σ4 =>
  (x3, σ4)
def fX4_isSide (σ : tl_St) (a1 : Int32) : Int32 :=
  tl_bnd (fun (x1 : Int32) =>
  if (σ 34 6) = x1 then
  1
  else
  0) fun (k2 : Int32 → Int32) =>
  if a1 = 0 then
  k2 1
  else
  k2 0
theorem bX4_isSide (σ : tl_St) (a1 : Int32) : tl_isb (fX4_isSide σ a1) := by
  unfold fX4_isSide
  try simp only [tl_bnd]
  repeat (first | exact Or.inl rfl | exact Or.inr rfl | split)
def fX4_nextBoat_L11 (σ : tl_St) (k4 : Int32 → Int32 → Option Int32) : Nat → Int32 → Int32 → Int32 → Option Int32
  | 0, _, _, _ => none
  | n + 1, x8, x9, x10 =>
    if x10 < 0 then
    k4 x8 x9
    else
    if tl_in x10 100 then
    tl_bnd (fun (x13 : Int32) =>
    if tl_in x10 100 then
    tl_bnd (fun (x16 : Int32) =>
    tl_bnd (x10 + (-1)) fun x18 =>
    fX4_nextBoat_L11 σ k4 n x13 x16 x18) fun (k17 : Int32 → Option Int32) =>
    tl_bnd (
    k17 x9) fun (k19 : Option Int32) =>
    if (σ 45 x10.toNatClampNeg) = 0 then
    k19
    else
    if tl_in x10 100 then
    tl_bnd (fX4_isSide σ (σ 44 x10.toNatClampNeg)) fun r22 =>
    if r22 = 0 then
    k19
    else
    k17 x10
    else none
    else none) fun (k14 : Int32 → Option Int32) =>
    if (σ 45 x10.toNatClampNeg) = 0 then
    k14 x8
    else
    k14 x10
    else none
def fX4_nextBoat (σ : tl_St) : Option Int32 :=
  tl_bnd (((σ 34 14) - 1)) fun x1 =>
  tl_bnd (fun (x2 : Int32) (x3 : Int32) =>
  tl_bnd (
  some x2) fun (k5 : Option Int32) =>
  if (σ 34 17) = 1 then
  if x3 = (-1) then
  k5
  else
  some x3
  else
  k5) fun (k4 : Int32 → Int32 → Option Int32) =>
  fX4_nextBoat_L11 σ k4 1000 (-1) (-1) x1
def fX4_nextBy (σ : tl_St) (a1 : Int32) : Option Int32 :=
  tl_o1 (fX4_nextBoat σ) fun r1 =>
  if a1 = 0 then
  some r1
  else
  if r1 = (-1) then
  some 0
  else
  if tl_in r1 100 then
  tl_bnd (fX4_isSide σ (σ 44 r1.toNatClampNeg)) fun r5 =>
  if r5 = 0 then
  some 2
  else
  some 1
  else none
def fX4_next (σ : tl_St) (a1 : Int32) : Option Int32 :=
  tl_bnd (fX4_isTwo σ a1) fun r1 =>
  if r1 = 0 then
  some (-2)
  else
  tl_o1 (fX4_nextBy σ a1) fun r3 =>
  some r3
def fX4_goesTo_L7 (σ : tl_St) (a1 : Int32) (k2 : Int32 → Option Int32) : Nat → Int32 → Int32 → Int32 → Option Int32
  | 0, _, _, _ => none
  | n + 1, x3, x4, x5 =>
    if (σ 34 7) ≤ x5 then
    k2 x3
    else
    if tl_in x5 4 then
    tl_o1 (fX4_levelOf σ x5 ((σ 43 x5.toNatClampNeg) + 1)) fun r8 =>
    tl_bnd (fX4_isIn σ (σ 34 13) x5) fun r9 =>
    tl_bnd (fun (x10 : Int32) =>
    tl_bnd (fun (x12 : Int32) =>
    tl_bnd (fun (x14 : Int32) =>
    tl_bnd (x5 + 1) fun x16 =>
    fX4_goesTo_L7 σ a1 k2 n x12 x14 x16) fun (k15 : Int32 → Option Int32) =>
    if x10 = 0 then
    k15 x4
    else
    tl_bnd (fX4_greater σ r8 x4) fun r18 =>
    k15 r18) fun (k13 : Int32 → Option Int32) =>
    tl_bnd (
    k13 x3) fun (k19 : Option Int32) =>
    if x10 = 0 then
    k19
    else
    if r8 ≤ x4 then
    k19
    else
    k13 x5) fun (k11 : Int32 → Option Int32) =>
    tl_bnd (
    k11 0) fun (k22 : Option Int32) =>
    if r9 = 0 then
    if tl_in x5 4 then
    if tl_in x5 4 then
    if (σ 40 x5.toNatClampNeg) ≤ (σ 43 x5.toNatClampNeg) then
    k22
    else
    if (6 * a1) < r8 then
    k22
    else
    k11 1
    else none
    else none
    else
    k22
    else none
def fX4_goesTo (σ : tl_St) (a1 : Int32) : Option Int32 :=
  tl_bnd (fun (x1 : Int32) =>
  some x1) fun (k2 : Int32 → Option Int32) =>
  fX4_goesTo_L7 σ a1 k2 1000 (-1) (-1) 0
def fX4_comesFrom_L8 (σ : tl_St) (a1 : Int32) (k2 : Int32 → Option Int32) : Nat → Int32 → Int32 → Int32 → Option Int32
  | 0, _, _, _ => none
  | n + 1, x3, x4, x5 =>
    if (σ 34 7) ≤ x5 then
    k2 x3
    else
    if tl_in x5 4 then
    tl_o1 (fX4_levelOf σ x5 ((σ 43 x5.toNatClampNeg) - 1)) fun r8 =>
    tl_bnd (fX4_isIn σ (σ 34 13) x5) fun r9 =>
    tl_bnd (fun (x10 : Int32) =>
    tl_bnd (fun (x12 : Int32) =>
    tl_bnd (fun (x14 : Int32) =>
    tl_bnd (x5 + 1) fun x16 =>
    fX4_comesFrom_L8 σ a1 k2 n x12 x14 x16) fun (k15 : Int32 → Option Int32) =>
    if x10 = 0 then
    k15 x4
    else
    tl_bnd (fX4_lesser σ r8 x4) fun r18 =>
    k15 r18) fun (k13 : Int32 → Option Int32) =>
    tl_bnd (
    k13 x3) fun (k19 : Option Int32) =>
    if x10 = 0 then
    k19
    else
    if x4 ≤ r8 then
    k19
    else
    k13 x5) fun (k11 : Int32 → Option Int32) =>
    tl_bnd (
    k11 0) fun (k22 : Option Int32) =>
    if r9 = 0 then
    if tl_in x5 4 then
    if (σ 43 x5.toNatClampNeg) ≤ 0 then
    k22
    else
    if r8 < (6 * a1) then
    k22
    else
    k11 1
    else none
    else
    k22
    else none
def fX4_comesFrom (σ : tl_St) (a1 : Int32) : Option Int32 :=
  tl_bnd (fun (x1 : Int32) =>
  some x1) fun (k2 : Int32 → Option Int32) =>
  fX4_comesFrom_L8 σ a1 k2 1000 (-1) 999999 0
def fX4_moves_L156 (k12 : tl_St → Option tl_St) : Nat → tl_St → Int32 → Option tl_St
  | 0, _, _ => none
  | n + 1, σ13, x14 =>
    if (σ13 34 7) ≤ x14 then
    k12 σ13
    else
    if tl_in x14 4 then
    if tl_in x14 4 then
    tl_bnd (fX4_lesser σ13 (σ13 42 x14.toNatClampNeg) (σ13 43 x14.toNatClampNeg)) fun r18 =>
    if tl_in x14 4 then
    if tl_in x14 4 then
    tl_bnd (tl_set σ13 43 (x14.toNatClampNeg) ((σ13 43 x14.toNatClampNeg) - r18)) fun σ21 =>
    tl_bnd (tl_set σ21 34 21 ((σ21 34 21) + r18)) fun σ22 =>
    tl_bnd (x14 + 1) fun x23 =>
    fX4_moves_L156 k12 n σ22 x23
    else none
    else none
    else none
    else none
def fX4_moves_L32 (k6 : tl_St → Option tl_St) : Nat → tl_St → Int32 → Option tl_St
  | 0, _, _ => none
  | n + 1, σ25, x26 =>
    if (σ25 34 5) ≤ x26 then
    k6 σ25
    else
    tl_bnd (fun (x28 : Int32) =>
    if tl_in x26 60 then
    tl_bnd (tl_set σ25 46 (x26.toNatClampNeg) x28) fun σ31 =>
    tl_bnd (fun (x32 : Int32) =>
    tl_bnd (tl_set σ31 34 20 ((σ31 34 20) + x32)) fun σ34 =>
    if x28 = (-1) then
    tl_bnd (x26 + 1) fun x36 =>
    fX4_moves_L32 k6 n σ34 x36
    else
    if tl_in x28 4 then
    tl_bnd (fun (x38 : Int32) =>
    if tl_in x28 4 then
    tl_bnd (tl_set σ34 43 (x28.toNatClampNeg) ((σ34 43 x28.toNatClampNeg) + x38)) fun σ41 =>
    if tl_in x28 4 then
    if tl_in x28 4 then
    tl_bnd (tl_set σ41 47 (x28.toNatClampNeg) ((σ41 47 x28.toNatClampNeg) + 1)) fun σ44 =>
    tl_bnd (x26 + 1) fun x45 =>
    fX4_moves_L32 k6 n σ44 x45
    else none
    else none
    else none) fun (k39 : Int32 → Option tl_St) =>
    if (σ34 34 6) = 0 then
    k39 (-1)
    else
    k39 1
    else none) fun (k33 : Int32 → Option tl_St) =>
    if x28 = (-1) then
    k33 1
    else
    k33 0
    else none) fun (k29 : Int32 → Option tl_St) =>
    if (σ25 34 6) = 0 then
    tl_o1 (fX4_comesFrom σ25 (x26 + 1)) fun r49 =>
    k29 r49
    else
    tl_o1 (fX4_goesTo σ25 (((σ25 34 5) - 1) - x26)) fun r50 =>
    k29 r50
def fX4_moves_L12 (k4 : tl_St → Option tl_St) : Nat → tl_St → Int32 → Option tl_St
  | 0, _, _ => none
  | n + 1, σ51, x52 =>
    if 4 ≤ x52 then
    k4 σ51
    else
    if tl_in x52 4 then
    tl_bnd (tl_set σ51 47 (x52.toNatClampNeg) 0) fun σ55 =>
    tl_bnd (x52 + 1) fun x56 =>
    fX4_moves_L12 k4 n σ55 x56
    else none
def fX4_moves (σ : tl_St) : Option tl_St :=
  tl_bnd (tl_set σ 34 20 0) fun σ1 =>
  tl_bnd (tl_set σ1 34 21 0) fun σ2 =>
  tl_bnd (fun (σ3 : tl_St) =>
  tl_bnd (fun (σ5 : tl_St) =>
  tl_bnd (fun (x7 : Int32) =>
  if tl_isb x7 then
  tl_bnd (tl_set σ5 34 6 x7) fun σ10 =>
  tl_bnd (fun (σ11 : tl_St) =>
  some σ11) fun (k12 : tl_St → Option tl_St) =>
  fX4_moves_L156 k12 1000 σ10 0
  else none) fun (k8 : Int32 → Option tl_St) =>
  if (σ5 34 6) = 0 then
  k8 1
  else
  k8 0) fun (k6 : tl_St → Option tl_St) =>
  fX4_moves_L32 k6 1000 σ3 0) fun (k4 : tl_St → Option tl_St) =>
  fX4_moves_L12 k4 1000 σ2 0
def fX4_keeps_L10 (k4 : tl_St → Option tl_St) : Nat → tl_St → Int32 → Option tl_St
  | 0, _, _ => none
  | n + 1, σ5, x6 =>
    if 4 ≤ x6 then
    k4 σ5
    else
    if tl_in x6 4 then
    if tl_in x6 4 then
    tl_bnd (tl_set σ5 48 (x6.toNatClampNeg) (σ5 43 x6.toNatClampNeg)) fun σ10 =>
    tl_bnd (x6 + 1) fun x11 =>
    fX4_keeps_L10 k4 n σ10 x11
    else none
    else none
def fX4_keeps (σ : tl_St) : Option tl_St :=
  if tl_isb (σ 34 6) then
  tl_bnd (tl_set σ 34 23 (σ 34 6)) fun σ2 =>
  tl_bnd (fun (σ3 : tl_St) =>
  some σ3) fun (k4 : tl_St → Option tl_St) =>
  fX4_keeps_L10 k4 1000 σ2 0
  else none
def fX4_takesBack_L10 (k4 : tl_St → Option tl_St) : Nat → tl_St → Int32 → Option tl_St
  | 0, _, _ => none
  | n + 1, σ5, x6 =>
    if 4 ≤ x6 then
    k4 σ5
    else
    if tl_in x6 4 then
    if tl_in x6 4 then
    tl_bnd (tl_set σ5 43 (x6.toNatClampNeg) (σ5 48 x6.toNatClampNeg)) fun σ10 =>
    tl_bnd (x6 + 1) fun x11 =>
    fX4_takesBack_L10 k4 n σ10 x11
    else none
    else none
def fX4_takesBack (σ : tl_St) : Option tl_St :=
  if tl_isb (σ 34 23) then
  tl_bnd (tl_set σ 34 6 (σ 34 23)) fun σ2 =>
  tl_bnd (fun (σ3 : tl_St) =>
  some σ3) fun (k4 : tl_St → Option tl_St) =>
  fX4_takesBack_L10 k4 1000 σ2 0
  else none
def fX4_does_L93 (x1 : Int32) (k18 : tl_St → Option tl_St) : Nat → tl_St → Int32 → Option tl_St
  | 0, _, _ => none
  | n + 1, σ30, x31 =>
    if 4 ≤ x31 then
    k18 σ30
    else
    if tl_in x31 4 then
    if tl_in ((x1 + 5) + x31) 540 then
    tl_bnd (tl_set σ30 49 (((x1 + 5) + x31).toNatClampNeg) (σ30 47 x31.toNatClampNeg)) fun σ35 =>
    tl_bnd (x31 + 1) fun x36 =>
    fX4_does_L93 x1 k18 n σ35 x36
    else none
    else none
def fX4_does (σ : tl_St) (a1 : Int32) : Option tl_St :=
  tl_bnd ((9 * (σ 34 25))) fun x1 =>
  tl_bnd (fun (x2 : Int32) =>
  tl_o1 (fX4_moves σ) fun σ4 =>
  if tl_in x1 540 then
  tl_bnd (tl_set σ4 49 (x1.toNatClampNeg) a1) fun σ6 =>
  tl_bnd (fun (x7 : Int32) =>
  if tl_in (x1 + 1) 540 then
  tl_bnd (tl_set σ6 49 ((x1 + 1).toNatClampNeg) x7) fun σ10 =>
  if tl_in (x1 + 2) 540 then
  tl_bnd (tl_set σ10 49 ((x1 + 2).toNatClampNeg) ((σ10 34 5) - (σ10 34 20))) fun σ12 =>
  if tl_in (x1 + 3) 540 then
  tl_bnd (tl_set σ12 49 ((x1 + 3).toNatClampNeg) (σ12 34 20)) fun σ14 =>
  if tl_in (x1 + 4) 540 then
  tl_bnd (tl_set σ14 49 ((x1 + 4).toNatClampNeg) (σ14 34 21)) fun σ16 =>
  tl_bnd (fun (σ17 : tl_St) =>
  tl_bnd (fun (x19 : Int32) =>
  tl_bnd (tl_set σ17 34 26 ((σ17 34 26) + x19)) fun σ21 =>
  tl_bnd (fun (x22 : Int32) =>
  tl_bnd (tl_set σ21 34 27 ((σ21 34 27) + x22)) fun σ24 =>
  tl_bnd (tl_set σ24 34 28 ((σ24 34 28) + (σ24 34 21))) fun σ25 =>
  tl_bnd (tl_set σ25 34 29 ((σ25 34 29) + 1)) fun σ26 =>
  tl_bnd (tl_set σ26 34 25 ((σ26 34 25) + 1)) fun σ27 =>
  some σ27) fun (k23 : Int32 → Option tl_St) =>
  if x2 = 0 then
  k23 (σ21 34 20)
  else
  k23 0) fun (k20 : Int32 → Option tl_St) =>
  if x2 = 0 then
  k20 0
  else
  k20 (σ17 34 20)) fun (k18 : tl_St → Option tl_St) =>
  fX4_does_L93 x1 k18 1000 σ16 0
  else none
  else none
  else none
  else none) fun (k8 : Int32 → Option tl_St) =>
  if x2 = 0 then
  k8 0
  else
  k8 1
  else none) fun (k3 : Int32 → Option tl_St) =>
  if (σ 34 6) = 0 then
  k3 1
  else
  k3 0
def fX4_serve (σ : tl_St) : Option (Int32 × tl_St) :=
  tl_o1 (fX4_nextBoat σ) fun r1 =>
  if r1 = (-1) then
  some ((-3), σ)
  else
  tl_o1 (fX4_nextBy σ 1) fun r3 =>
  if ((σ 34 25) + r3) ≤ 60 then
  if tl_in r1 100 then
  tl_bnd (fX4_isSide σ (σ 44 r1.toNatClampNeg)) fun r6 =>
  tl_bnd (fun (σ7 : tl_St) =>
  if tl_in r1 100 then
  tl_bnd (tl_set σ7 45 (r1.toNatClampNeg) 0) fun σ10 =>
  tl_o1 (fX4_does σ10 r1) fun σ11 =>
  some (r1, σ11)
  else none) fun (k8 : tl_St → Option (Int32 × tl_St)) =>
  if r6 = 0 then
  tl_o1 (fX4_does σ (-1)) fun σ13 =>
  k8 σ13
  else
  k8 σ
  else none
  else
  some ((-4), σ)
def fX4_turn (σ : tl_St) : Option (Int32 × tl_St) :=
  if (σ 34 25) = 60 then
  some ((-4), σ)
  else
  tl_o1 (fX4_does σ (-1)) fun σ2 =>
  some ((σ2 34 20), σ2)
def fX4_ledger (σ : tl_St) (a1 : Int32) (a2 : Int32) : Option Int32 :=
  tl_bnd (fX4_in σ (a1.toInt64) 0 (((σ 34 25) - 1).toInt64)) fun r1 =>
  tl_bnd (
  some (-2)) fun (k2 : Option Int32) =>
  if r1 = 0 then
  k2
  else
  tl_bnd (fX4_in σ (a2.toInt64) 0 8) fun r4 =>
  if r4 = 0 then
  k2
  else
  if tl_in ((9 * a1) + a2) 540 then
  some (σ 49 ((9 * a1) + a2).toNatClampNeg)
  else none
def fX4_wipe (σ : tl_St) : (Int32 × tl_St) :=
  tl_bnd ((σ 34 25)) fun x1 =>
  tl_bnd (tl_set σ 34 25 0) fun σ2 =>
  (x1, σ2)
def fX4_inBasins_L4 (σ : tl_St) (k2 : Int32 → Option Int32) : Nat → Int32 → Int32 → Option Int32
  | 0, _, _ => none
  | n + 1, x3, x4 =>
    if (σ 34 7) ≤ x4 then
    k2 x3
    else
    if tl_in x4 4 then
    tl_bnd ((x3 + (σ 43 x4.toNatClampNeg))) fun x7 =>
    tl_bnd (x4 + 1) fun x8 =>
    fX4_inBasins_L4 σ k2 n x7 x8
    else none
def fX4_inBasins (σ : tl_St) : Option Int32 :=
  tl_bnd (fun (x1 : Int32) =>
  some x1) fun (k2 : Int32 → Option Int32) =>
  fX4_inBasins_L4 σ k2 1000 0 0
def fX4_totalBy (σ : tl_St) (a1 : Int32) : Option Int32 :=
  if a1 = 0 then
  some (σ 34 26)
  else
  if a1 = 1 then
  some (σ 34 27)
  else
  if a1 = 2 then
  some (σ 34 28)
  else
  if a1 = 3 then
  tl_o1 (fX4_inBasins σ) fun r5 =>
  some r5
  else
  some (σ 34 29)
def fX4_total (σ : tl_St) (a1 : Int32) : Option Int32 :=
  tl_bnd (fX4_in σ (a1.toInt64) 0 4) fun r1 =>
  if r1 = 0 then
  some (-2)
  else
  tl_o1 (fX4_totalBy σ a1) fun r3 =>
  some r3
def fX4_looks (σ : tl_St) : Option tl_St :=
  tl_o1 (fX4_keeps σ) fun σ1 =>
  tl_o1 (fX4_moves σ1) fun σ2 =>
  tl_o1 (fX4_takesBack σ2) fun σ3 =>
  some σ3
def fX4_stepBy (σ : tl_St) (a1 : Int32) : Option Int32 :=
  if a1 = (-1) then
  some (σ 34 5)
  else
  if (σ 34 5) ≤ a1 then
  some (-1)
  else
  if tl_in a1 60 then
  some (σ 46 a1.toNatClampNeg)
  else none
def fX4_step (σ : tl_St) (a1 : Int32) : Option (Int32 × tl_St) :=
  tl_o1 (fX4_looks σ) fun σ1 =>
  tl_bnd (fX4_in σ1 (a1.toInt64) (-1) 59) fun r2 =>
  if r2 = 0 then
  some ((-2), σ1)
  else
  tl_o1 (fX4_stepBy σ1 a1) fun r4 =>
  some (r4, σ1)
def fX4_aheadOf_L8 (a1 : Int32) (k4 : tl_St → Int32 → Option (Int32 × tl_St)) : Nat → tl_St → Int32 → Int32 → Option (Int32 × tl_St)
  | 0, _, _, _ => none
  | n + 1, σ6, x7, x8 =>
    if a1 ≤ x8 then
    k4 σ6 x7
    else
    tl_bnd (fun (x10 : Int32) =>
    tl_o1 (fX4_moves σ6) fun σ12 =>
    tl_bnd (fun (x13 : Int32) =>
    tl_bnd ((x7 + x13)) fun x15 =>
    tl_bnd (x8 + 1) fun x16 =>
    fX4_aheadOf_L8 a1 k4 n σ12 x15 x16) fun (k14 : Int32 → Option (Int32 × tl_St)) =>
    if x10 = 0 then
    k14 0
    else
    k14 (σ12 34 20)) fun (k11 : Int32 → Option (Int32 × tl_St)) =>
    if (σ6 34 6) = 0 then
    k11 1
    else
    k11 0
def fX4_aheadOf (σ : tl_St) (a1 : Int32) : Option (Int32 × tl_St) :=
  tl_o1 (fX4_keeps σ) fun σ1 =>
  tl_bnd (fun (σ2 : tl_St) (x3 : Int32) =>
  tl_o1 (fX4_takesBack σ2) fun σ5 =>
  some (x3, σ5)) fun (k4 : tl_St → Int32 → Option (Int32 × tl_St)) =>
  fX4_aheadOf_L8 a1 k4 1000 σ1 0 0
def fX4_ahead (σ : tl_St) (a1 : Int32) : Option (Int32 × tl_St) :=
  tl_bnd (fX4_in σ (a1.toInt64) 0 40) fun r1 =>
  if r1 = 0 then
  some ((-2), σ)
  else
  tl_o2 (fX4_aheadOf σ a1) fun r3 σ4 =>
  some (r3, σ4)
def fX4_betterBy_L17 (a1 : Int32) (k6 : tl_St → Int32 → Int32 → Option (Int32 × tl_St)) : Nat → tl_St → Int32 → Int32 → Int32 → Option (Int32 × tl_St)
  | 0, _, _, _, _ => none
  | n + 1, σ10, x11, x12, x13 =>
    if 60 ≤ x13 then
    k6 σ10 x11 x12
    else
    if tl_in a1 4 then
    tl_bnd (tl_set σ10 39 (a1.toNatClampNeg) x13) fun σ16 =>
    tl_o2 (fX4_aheadOf σ16 10) fun r17 σ18 =>
    tl_bnd (fun (x19 : Int32) =>
    tl_bnd (fX4_lesser σ18 r17 x12) fun r21 =>
    tl_bnd (x13 + 1) fun x22 =>
    fX4_betterBy_L17 a1 k6 n σ18 x19 r21 x22) fun (k20 : Int32 → Option (Int32 × tl_St)) =>
    if x12 ≤ r17 then
    k20 x11
    else
    k20 x13
    else none
def fX4_betterBy (σ : tl_St) (a1 : Int32) (a2 : Int32) : Option (Int32 × tl_St) :=
  if tl_in a1 4 then
  tl_bnd ((σ 39 a1.toNatClampNeg)) fun x2 =>
  tl_bnd (fun (σ3 : tl_St) (x4 : Int32) (x5 : Int32) =>
  if tl_in a1 4 then
  tl_bnd (tl_set σ3 39 (a1.toNatClampNeg) x2) fun σ8 =>
  if a2 = 0 then
  some (x4, σ8)
  else
  some (x5, σ8)
  else none) fun (k6 : tl_St → Int32 → Int32 → Option (Int32 × tl_St)) =>
  fX4_betterBy_L17 a1 k6 1000 σ (-1) 999999 0
  else none
def fX4_better (σ : tl_St) (a1 : Int32) (a2 : Int32) : Option (Int32 × tl_St) :=
  tl_bnd (fX4_isBasin σ a1) fun r1 =>
  tl_bnd (
  some ((-2), σ)) fun (k2 : Option (Int32 × tl_St)) =>
  if r1 = 0 then
  k2
  else
  tl_bnd (fX4_isTwo σ a2) fun r4 =>
  if r4 = 0 then
  k2
  else
  tl_o2 (fX4_betterBy σ a1 a2) fun r6 σ7 =>
  some (r6, σ7)
def fX4_needlessBy_L8 (k4 : tl_St → Int32 → Int32 → Option (Int32 × tl_St)) : Nat → tl_St → Int32 → Int32 → Int32 → Option (Int32 × tl_St)
  | 0, _, _, _, _ => none
  | n + 1, σ8, x9, x10, x11 =>
    if (σ8 34 7) ≤ x11 then
    k4 σ8 x9 x10
    else
    tl_bnd (fX4_isIn σ8 (σ8 34 13) x11) fun r13 =>
    if r13 = 0 then
    tl_bnd (tl_set σ8 34 13 ((σ8 34 13) ||| (1 <<< (x11 &&& 31)))) fun σ16 =>
    tl_o2 (fX4_aheadOf σ16 10) fun r17 σ18 =>
    tl_bnd (tl_set σ18 34 13 ((σ18 34 13) &&& ((1 <<< (x11 &&& 31)) ^^^ (-1)))) fun σ19 =>
    tl_bnd (fun (x20 : Int32) =>
    tl_bnd (fX4_lesser σ19 r17 x10) fun r22 =>
    tl_bnd (x11 + 1) fun x23 =>
    fX4_needlessBy_L8 k4 n σ19 x20 r22 x23) fun (k21 : Int32 → Option (Int32 × tl_St)) =>
    if x10 ≤ r17 then
    k21 x9
    else
    k21 x11
    else
    tl_bnd (x11 + 1) fun x15 =>
    fX4_needlessBy_L8 k4 n σ8 x9 x10 x15
def fX4_needlessBy (σ : tl_St) (a1 : Int32) : Option (Int32 × tl_St) :=
  tl_bnd (fun (σ1 : tl_St) (x2 : Int32) (x3 : Int32) =>
  tl_bnd (
  some (x2, σ1)) fun (k5 : Option (Int32 × tl_St)) =>
  if x2 = (-1) then
  k5
  else
  if a1 = 0 then
  k5
  else
  some (x3, σ1)) fun (k4 : tl_St → Int32 → Int32 → Option (Int32 × tl_St)) =>
  fX4_needlessBy_L8 k4 1000 σ (-1) 999999 0
def fX4_needless (σ : tl_St) (a1 : Int32) : Option (Int32 × tl_St) :=
  tl_bnd (fX4_isTwo σ a1) fun r1 =>
  if r1 = 0 then
  some ((-2), σ)
  else
  tl_o2 (fX4_needlessBy σ a1) fun r3 σ4 =>
  some (r3, σ4)
def fX4_write_L45 (a1 : Int32) (r7 : Int32) (k9 : tl_St → Option (Int32 × tl_St)) : Nat → tl_St → Int32 → Option (Int32 × tl_St)
  | 0, _, _ => none
  | n + 1, σ10, x11 =>
    if r7 ≤ x11 then
    k9 σ10
    else
    if tl_in a1 4 then
    if tl_in x11 60 then
    tl_bnd (fX4_cut σ10 (σ10 35 a1.toNatClampNeg) (σ10 46 x11.toNatClampNeg)) fun r15 =>
    if tl_in ((60 * a1) + x11) 240 then
    tl_bnd (tl_set σ10 37 (((60 * a1) + x11).toNatClampNeg) r15) fun σ17 =>
    tl_bnd (x11 + 1) fun x18 =>
    fX4_write_L45 a1 r7 k9 n σ17 x18
    else none
    else none
    else none
def fX4_write (σ : tl_St) (a1 : Int32) : Option (Int32 × tl_St) :=
  tl_bnd (fX4_isSheet σ a1) fun r1 =>
  if r1 = 0 then
  some ((-2), σ)
  else
  if tl_in a1 4 then
  if 0 ≤ (σ 35 a1.toNatClampNeg) then
  tl_o1 (fX4_looks σ) fun σ5 =>
  if tl_in a1 4 then
  tl_bnd (fX4_lesser σ5 (σ5 36 a1.toNatClampNeg) (σ5 34 5)) fun r7 =>
  tl_bnd (fun (σ8 : tl_St) =>
  some (r7, σ8)) fun (k9 : tl_St → Option (Int32 × tl_St)) =>
  fX4_write_L45 a1 r7 k9 1000 σ5 0
  else none
  else
  tl_b2 (fX4_finds σ 1) fun r19 σ20 =>
  some (r19, σ20)
  else none
def fX4_count (σ : tl_St) (a1 : Int32) : Option Int32 :=
  if a1 = 0 then
  some (σ 34 7)
  else
  if a1 = 1 then
  tl_o1 (fX4_manyWait σ 0) fun r3 =>
  tl_o1 (fX4_manyWait σ 1) fun r4 =>
  some (r3 + r4)
  else
  if a1 = 2 then
  some (σ 34 25)
  else
  if a1 = 3 then
  tl_bnd (fX4_chamberBy σ 0) fun r7 =>
  some r7
  else
  if a1 = 4 then
  tl_o1 (fX4_inBasins σ) fun r9 =>
  some r9
  else
  if a1 = 5 then
  some (σ 34 26)
  else
  if a1 = 6 then
  some (σ 34 27)
  else
  if a1 = 7 then
  some (σ 34 14)
  else
  if a1 = 8 then
  some (σ 34 4)
  else
  some (-2)
def fX4_digest_L345 (k30 : tl_St → Int64 → Option (Int64 × tl_St)) : Nat → tl_St → Int64 → Int32 → Option (Int64 × tl_St)
  | 0, _, _, _ => none
  | n + 1, σ31, x32, x33 =>
    if 2 ≤ x33 then
    k30 σ31 x32
    else
    tl_o2 (fX4_needlessBy σ31 x33) fun r35 σ36 =>
    tl_bnd (((31 * x32) + r35.toInt64)) fun x37 =>
    tl_bnd (x33 + 1) fun x38 =>
    fX4_digest_L345 k30 n σ36 x37 x38
def fX4_digest_L278 (σ16 : tl_St) (k18 : Int64 → Option (Int64 × tl_St)) : Nat → Int64 → Int32 → Option (Int64 × tl_St)
  | 0, _, _ => none
  | n + 1, x39, x40 =>
    if 41 ≤ x40 then
    k18 x39
    else
    tl_o1 (fX4_stepBy σ16 x40) fun r42 =>
    tl_bnd (((31 * x39) + r42.toInt64)) fun x43 =>
    tl_bnd (x40 + 1) fun x44 =>
    fX4_digest_L278 σ16 k18 n x43 x44
def fX4_digest_L248 (σ3 : tl_St) (k15 : Int64 → Option (Int64 × tl_St)) : Nat → Int64 → Int32 → Option (Int64 × tl_St)
  | 0, _, _ => none
  | n + 1, x45, x46 =>
    if 5 ≤ x46 then
    k15 x45
    else
    tl_o1 (fX4_totalBy σ3 x46) fun r48 =>
    tl_bnd (((31 * x45) + r48.toInt64)) fun x49 =>
    tl_bnd (x46 + 1) fun x50 =>
    fX4_digest_L248 σ3 k15 n x49 x50
def fX4_digest_L215 (σ3 : tl_St) (k13 : Int64 → Option (Int64 × tl_St)) : Nat → Int64 → Int32 → Option (Int64 × tl_St)
  | 0, _, _ => none
  | n + 1, x51, x52 =>
    if (9 * (σ3 34 25)) ≤ x52 then
    k13 x51
    else
    if tl_in x52 540 then
    tl_bnd (((31 * x51) + (σ3 49 x52.toNatClampNeg).toInt64)) fun x55 =>
    tl_bnd (x52 + 1) fun x56 =>
    fX4_digest_L215 σ3 k13 n x55 x56
    else none
def fX4_digest_L189 (σ3 : tl_St) (k11 : Int64 → Option (Int64 × tl_St)) : Nat → Int64 → Int32 → Option (Int64 × tl_St)
  | 0, _, _ => none
  | n + 1, x57, x58 =>
    if 2 ≤ x58 then
    k11 x57
    else
    tl_o1 (fX4_nextBy σ3 x58) fun r60 =>
    tl_bnd (((31 * x57) + r60.toInt64)) fun x61 =>
    tl_bnd (x58 + 1) fun x62 =>
    fX4_digest_L189 σ3 k11 n x61 x62
def fX4_digest_L134 (σ3 : tl_St) (k9 : Int64 → Option (Int64 × tl_St)) : Nat → Int64 → Int32 → Option (Int64 × tl_St)
  | 0, _, _ => none
  | n + 1, x63, x64 =>
    if 2 ≤ x64 then
    k9 x63
    else
    tl_o1 (fX4_waitsBy σ3 x64 (-1)) fun r66 =>
    tl_bnd (((31 * x63) + r66.toInt64)) fun x67 =>
    tl_o1 (fX4_waitsBy σ3 x64 0) fun r68 =>
    tl_bnd (((31 * x67) + r68.toInt64)) fun x69 =>
    tl_o1 (fX4_waitsBy σ3 x64 3) fun r70 =>
    tl_bnd (((31 * x69) + r70.toInt64)) fun x71 =>
    tl_bnd (x64 + 1) fun x72 =>
    fX4_digest_L134 σ3 k9 n x71 x72
def fX4_digest_L108 (σ3 : tl_St) (k7 : Int64 → Option (Int64 × tl_St)) : Nat → Int64 → Int32 → Option (Int64 × tl_St)
  | 0, _, _ => none
  | n + 1, x73, x74 =>
    if 3 ≤ x74 then
    k7 x73
    else
    tl_bnd (fX4_chamberBy σ3 x74) fun r76 =>
    tl_bnd (((31 * x73) + r76.toInt64)) fun x77 =>
    tl_bnd (x74 + 1) fun x78 =>
    fX4_digest_L108 σ3 k7 n x77 x78
def fX4_digest_L44 (σ79 : tl_St) (x81 : Int32) (k84 : Int64 → Option (Int64 × tl_St)) : Nat → Int64 → Int32 → Option (Int64 × tl_St)
  | 0, _, _ => none
  | n + 1, x92, x93 =>
    if 7 ≤ x93 then
    k84 x92
    else
    tl_o1 (fX4_infoBy σ79 x81 x93) fun r95 =>
    tl_bnd (((31 * x92) + r95.toInt64)) fun x96 =>
    tl_bnd (x93 + 1) fun x97 =>
    fX4_digest_L44 σ79 x81 k84 n x96 x97
def fX4_digest_L33 (k5 : tl_St → Int64 → Option (Int64 × tl_St)) : Nat → tl_St → Int64 → Int32 → Option (Int64 × tl_St)
  | 0, _, _, _ => none
  | n + 1, σ79, x80, x81 =>
    if (σ79 34 7) ≤ x81 then
    k5 σ79 x80
    else
    tl_bnd (fun (x83 : Int64) =>
    tl_o2 (fX4_betterBy σ79 x81 0) fun r85 σ86 =>
    tl_bnd (((31 * x83) + r85.toInt64)) fun x87 =>
    tl_o2 (fX4_betterBy σ86 x81 1) fun r88 σ89 =>
    tl_bnd (((31 * x87) + r88.toInt64)) fun x90 =>
    tl_bnd (x81 + 1) fun x91 =>
    fX4_digest_L33 k5 n σ89 x90 x91) fun (k84 : Int64 → Option (Int64 × tl_St)) =>
    fX4_digest_L44 σ79 x81 k84 1000 x80 0
def fX4_digest_L6 (σ : tl_St) (k2 : Int64 → Option (Int64 × tl_St)) : Nat → Int64 → Int32 → Option (Int64 × tl_St)
  | 0, _, _ => none
  | n + 1, x98, x99 =>
    if 8 ≤ x99 then
    k2 x98
    else
    tl_o1 (fX4_count σ x99) fun r101 =>
    tl_bnd (((31 * x98) + r101.toInt64)) fun x102 =>
    tl_bnd (x99 + 1) fun x103 =>
    fX4_digest_L6 σ k2 n x102 x103
def fX4_digest (σ : tl_St) : Option (Int64 × tl_St) :=
  tl_bnd (fun (x1 : Int64) =>
  tl_bnd (fun (σ3 : tl_St) (x4 : Int64) =>
  tl_bnd (fun (x6 : Int64) =>
  tl_bnd (fun (x8 : Int64) =>
  tl_bnd (fun (x10 : Int64) =>
  tl_bnd (fun (x12 : Int64) =>
  tl_bnd (fun (x14 : Int64) =>
  tl_o1 (fX4_looks σ3) fun σ16 =>
  tl_bnd (fun (x17 : Int64) =>
  tl_o2 (fX4_aheadOf σ16 1) fun r19 σ20 =>
  tl_bnd (((31 * x17) + r19.toInt64)) fun x21 =>
  tl_o2 (fX4_aheadOf σ20 2) fun r22 σ23 =>
  tl_bnd (((31 * x21) + r22.toInt64)) fun x24 =>
  tl_o2 (fX4_aheadOf σ23 10) fun r25 σ26 =>
  tl_bnd (((31 * x24) + r25.toInt64)) fun x27 =>
  tl_bnd (fun (σ28 : tl_St) (x29 : Int64) =>
  some (x29, σ28)) fun (k30 : tl_St → Int64 → Option (Int64 × tl_St)) =>
  fX4_digest_L345 k30 1000 σ26 x27 0) fun (k18 : Int64 → Option (Int64 × tl_St)) =>
  fX4_digest_L278 σ16 k18 1000 x14 (-1)) fun (k15 : Int64 → Option (Int64 × tl_St)) =>
  fX4_digest_L248 σ3 k15 1000 x12 0) fun (k13 : Int64 → Option (Int64 × tl_St)) =>
  fX4_digest_L215 σ3 k13 1000 x10 0) fun (k11 : Int64 → Option (Int64 × tl_St)) =>
  fX4_digest_L189 σ3 k11 1000 x8 0) fun (k9 : Int64 → Option (Int64 × tl_St)) =>
  fX4_digest_L134 σ3 k9 1000 x6 0) fun (k7 : Int64 → Option (Int64 × tl_St)) =>
  fX4_digest_L108 σ3 k7 1000 x4 0) fun (k5 : tl_St → Int64 → Option (Int64 × tl_St)) =>
  fX4_digest_L33 k5 1000 σ x1 0) fun (k2 : Int64 → Option (Int64 × tl_St)) =>
  fX4_digest_L6 σ k2 1000 17 0
