def ct_F0 (cI : ClassId) (ad : Nat → Nat) : va_W := [(ad 0, .inr (0, [.ref (ad 1), .int 0])), (ad 1, .inl (cI, 16, .inl (fun _ => 0)))]
abbrev rX0_init : Room := { frames := 1, cells := 1, slots := 16, locals := 12 }
set_option maxHeartbeats 4000000 in
set_option maxRecDepth 100000 in
theorem okX0_init (l : Launch) (D : va_G) (cI cZ cQ cS : ClassId) (h0 sz : Nat) : Met l yX0_init wsX0_init rX0_init (va_Pc [.ref h0] (ct_Pre D (ct_T cI cZ cQ cS) [(h0, .inr (0, [.null, .int 0]))] sz)) (ct_Q D 0 h0 (ct_F0 cI) (va_A [(h0, .inr (0, [.null, .int 0]))] sz)) 1 16 (va_A [(h0, .inr (0, [.null, .int 0]))] sz) := by
  refine ct_enter (cc := cX0_init) (maxL := 1) (own := RX0) (by decide) rfl rfl rfl (by decide) ?_
  intro p e s m below meth c C hts A hA hP hD ls hl
  have hx := C.1
  have hb := C.2.1
  have hS : va_S A s.heap s.heap [] := va_S.rf
  have hA : ∀ q : Nat, s.heap.size ≤ q → A q := hA
  obtain ⟨H, hH⟩ : ∃ H, H = s.heap := ⟨_, rfl⟩
  have hS : va_S A s.heap H [] := by rw [hH]; exact hS
  rw [← hH] at hP
  rw [show W p l e rX0_init s m [Value.ref h0].toArray below meth c s.heap [] 0 0 = W p l e rX0_init s m [Value.ref h0].toArray below meth c H [] 0 0 from by rw [hH]]
  refine lv_aload_n (pc := 0) hx hb dX0_init_0 rfl (lv_at hl 0 rfl) ?_
  refine ct_obj (pc := 1) C hts (by decide +kernel) (by decide +kernel) (by decide +kernel) hl.1 dX0_init_1 (Nat.le_of_ble_eq_true rfl) (Nat.le_of_ble_eq_true rfl) ?_
  refine lv_aload_n (pc := 4) hx hb dX0_init_4 rfl (lv_at hl 0 rfl) ?_
  refine lv_bipush (pc := 5) (v := 16) hx hb dX0_init_5 (by decide) ?_
  refine ct_newi (pc := 7) C hA hts (by decide +kernel) hP hD hS (N' := 16) (by decide) (by decide) (by decide) (Nat.le_of_ble_eq_true rfl) (Nat.le_of_ble_eq_true rfl) dX0_init_7 (fun q1 H hP hD hS => ?_)
  have hP : va_P D vwCl [(h0, .inr (0, [.null, .int 0])), (q1, .inl (cI, 16, .inl (fun _ => 0)))] H := hP
  have hD : va_D A [(h0, .inr (0, [.null, .int 0])), (q1, .inl (cI, 16, .inl (fun _ => 0)))] := hD
  refine W.widen (k := 1) (n := 16) (Nat.le_of_ble_eq_true rfl) (Nat.le_of_ble_eq_true rfl) ?_
  refine va_putF (pc := 9) (D := D) (ci := 0) (v := .ref q1) (ty := .array .int) (C := RX0) (T := TX0) (N := 2) hx hb hts (by decide +kernel) tyX0 tyX0_ok nmX0 C.2.2.2.1 C.2.2.2.2.2.2.2.1 hP hD hS 0 rfl rfl 0 (by decide) (hts (.fieldLink RX0 9 "ThriftLock$Queue" "boats" "[I") (by decide +kernel)) (fun _ h9 => h9) rfl C.2.2.2.2.2.2.1 rfl (by decide +kernel) rfl rfl (Nat.le_of_ble_eq_true rfl) dX0_init_9 (fun H locs hP hD hS => ?_)
  have hP : va_P D vwCl [(h0, .inr (0, [.ref q1, .int 0])), (q1, .inl (cI, 16, .inl (fun _ => 0)))] H := hP
  have hD : va_D A [(h0, .inr (0, [.ref q1, .int 0])), (q1, .inl (cI, 16, .inl (fun _ => 0)))] := hD
  have hP9 := hP.sub (ws' := ct_F0 cI (fun k => [h0, q1].getD k 0)) [0, 1] rfl
  have hD9 := hD.sub (ws' := ct_F0 cI (fun k => [h0, q1].getD k 0)) [0, 1] (by decide) rfl
  exact ct_ret (pc := 12) C (fun k => [h0, q1].getD k 0) rfl hP9 hD9 hS dX0_init_12
def ct_F1 (cI : ClassId) (ad : Nat → Nat) : va_W := [(ad 0, .inr (1, [.int 1, .int 0, .int 0, .ref (ad 1)])), (ad 1, .inl (cI, 60, .inl (fun _ => 0)))]
abbrev rX1_init : Room := { frames := 1, cells := 1, slots := 60, locals := 12 }
set_option maxHeartbeats 4000000 in
set_option maxRecDepth 100000 in
theorem okX1_init (l : Launch) (D : va_G) (cI cZ cQ cS : ClassId) (h0 sz : Nat) : Met l yX1_init wsX1_init rX1_init (va_Pc [.ref h0] (ct_Pre D (ct_T cI cZ cQ cS) [(h0, .inr (1, [.int 0, .int 0, .int 0, .null]))] sz)) (ct_Q D 0 h0 (ct_F1 cI) (va_A [(h0, .inr (1, [.int 0, .int 0, .int 0, .null]))] sz)) 1 60 (va_A [(h0, .inr (1, [.int 0, .int 0, .int 0, .null]))] sz) := by
  refine ct_enter (cc := cX1_init) (maxL := 1) (own := RX1) (by decide) rfl rfl rfl (by decide) ?_
  intro p e s m below meth c C hts A hA hP hD ls hl
  have hx := C.1
  have hb := C.2.1
  have hS : va_S A s.heap s.heap [] := va_S.rf
  have hA : ∀ q : Nat, s.heap.size ≤ q → A q := hA
  obtain ⟨H, hH⟩ : ∃ H, H = s.heap := ⟨_, rfl⟩
  have hS : va_S A s.heap H [] := by rw [hH]; exact hS
  rw [← hH] at hP
  rw [show W p l e rX1_init s m [Value.ref h0].toArray below meth c s.heap [] 0 0 = W p l e rX1_init s m [Value.ref h0].toArray below meth c H [] 0 0 from by rw [hH]]
  refine lv_aload_n (pc := 0) hx hb dX1_init_0 rfl (lv_at hl 0 rfl) ?_
  refine ct_obj (pc := 1) C hts (by decide +kernel) (by decide +kernel) (by decide +kernel) hl.1 dX1_init_1 (Nat.le_of_ble_eq_true rfl) (Nat.le_of_ble_eq_true rfl) ?_
  refine lv_aload_n (pc := 4) hx hb dX1_init_4 rfl (lv_at hl 0 rfl) ?_
  refine lv_iconst (pc := 5) (v := 1) hx hb dX1_init_5 (by decide) ?_
  refine va_put (pc := 6) (D := D) (ci := 1) (v := .int 1) (ty := .boolean) (C := RX1) (T := TX1) (N := 4) hx hb hts (by decide +kernel) tyX1 tyX1_ok nmX1 C.2.2.2.1 C.2.2.2.2.2.2.2.1 hP hD hS 0 rfl rfl 0 (by decide) (hts (.fieldLink RX1 9 "ThriftLock$Sheet" "lost" "Z") (by decide +kernel)) (fun _ h9 => h9) rfl (by decide +kernel) rfl rfl (Nat.le_of_ble_eq_true rfl) dX1_init_6 (fun H locs hP hD hS => ?_)
  have hP : va_P D vwCl [(h0, .inr (1, [.int 1, .int 0, .int 0, .null]))] H := hP
  have hD : va_D A [(h0, .inr (1, [.int 1, .int 0, .int 0, .null]))] := hD
  refine lv_aload_n (pc := 9) hx hb dX1_init_9 rfl (lv_at hl 0 rfl) ?_
  refine lv_bipush (pc := 10) (v := 60) hx hb dX1_init_10 (by decide) ?_
  refine ct_newi (pc := 12) C hA hts (by decide +kernel) hP hD hS (N' := 60) (by decide) (by decide) (by decide) (Nat.le_of_ble_eq_true rfl) (Nat.le_of_ble_eq_true rfl) dX1_init_12 (fun q1 H hP hD hS => ?_)
  have hP : va_P D vwCl [(h0, .inr (1, [.int 1, .int 0, .int 0, .null])), (q1, .inl (cI, 60, .inl (fun _ => 0)))] H := hP
  have hD : va_D A [(h0, .inr (1, [.int 1, .int 0, .int 0, .null])), (q1, .inl (cI, 60, .inl (fun _ => 0)))] := hD
  refine W.widen (k := 1) (n := 60) (Nat.le_of_ble_eq_true rfl) (Nat.le_of_ble_eq_true rfl) ?_
  refine va_putF (pc := 14) (D := D) (ci := 1) (v := .ref q1) (ty := .array .int) (C := RX1) (T := TX1) (N := 4) hx hb hts (by decide +kernel) tyX1 tyX1_ok nmX1 C.2.2.2.1 C.2.2.2.2.2.2.2.1 hP hD hS 0 rfl rfl 3 (by decide) (hts (.fieldLink RX1 15 "ThriftLock$Sheet" "items" "[I") (by decide +kernel)) (fun _ h9 => h9) rfl C.2.2.2.2.2.2.1 rfl (by decide +kernel) rfl rfl (Nat.le_of_ble_eq_true rfl) dX1_init_14 (fun H locs hP hD hS => ?_)
  have hP : va_P D vwCl [(h0, .inr (1, [.int 1, .int 0, .int 0, .ref q1])), (q1, .inl (cI, 60, .inl (fun _ => 0)))] H := hP
  have hD : va_D A [(h0, .inr (1, [.int 1, .int 0, .int 0, .ref q1])), (q1, .inl (cI, 60, .inl (fun _ => 0)))] := hD
  have hP9 := hP.sub (ws' := ct_F1 cI (fun k => [h0, q1].getD k 0)) [0, 1] rfl
  have hD9 := hD.sub (ws' := ct_F1 cI (fun k => [h0, q1].getD k 0)) [0, 1] (by decide) rfl
  exact ct_ret (pc := 17) C (fun k => [h0, q1].getD k 0) rfl hP9 hD9 hS dX1_init_17
def ct_F2 (cI : ClassId) (ad : Nat → Nat) : va_W := [(ad 0, .inr (2, [.int 30, .int 0, .int 0, .int 0, .ref (ad 1), .ref (ad 2), .ref (ad 3), .ref (ad 4), .ref (ad 5), .ref (ad 6), .ref (ad 7), .ref (ad 8), .int 0, .int 0])), (ad 1, .inl (cI, 4, .inl (fun _ => 0))), (ad 2, .inl (cI, 4, .inl (fun _ => 0))), (ad 3, .inl (cI, 4, .inl (fun _ => 0))), (ad 4, .inl (cI, 4, .inl (fun _ => 0))), (ad 5, .inl (cI, 4, .inl (fun _ => 0))), (ad 6, .inl (cI, 4, .inl (fun _ => 0))), (ad 7, .inl (cI, 60, .inl (fun _ => 0))), (ad 8, .inl (cI, 4, .inl (fun _ => 0)))]
abbrev rX2_init : Room := { frames := 1, cells := 8, slots := 88, locals := 12 }
set_option maxHeartbeats 4000000 in
set_option maxRecDepth 100000 in
theorem okX2_init (l : Launch) (D : va_G) (cI cZ cQ cS : ClassId) (h0 sz : Nat) : Met l yX2_init wsX2_init rX2_init (va_Pc [.ref h0] (ct_Pre D (ct_T cI cZ cQ cS) [(h0, .inr (2, [.int 0, .int 0, .int 0, .int 0, .null, .null, .null, .null, .null, .null, .null, .null, .int 0, .int 0]))] sz)) (ct_Q D 0 h0 (ct_F2 cI) (va_A [(h0, .inr (2, [.int 0, .int 0, .int 0, .int 0, .null, .null, .null, .null, .null, .null, .null, .null, .int 0, .int 0]))] sz)) 8 88 (va_A [(h0, .inr (2, [.int 0, .int 0, .int 0, .int 0, .null, .null, .null, .null, .null, .null, .null, .null, .int 0, .int 0]))] sz) := by
  refine ct_enter (cc := cX2_init) (maxL := 1) (own := RX2) (by decide) rfl rfl rfl (by decide) ?_
  intro p e s m below meth c C hts A hA hP hD ls hl
  have hx := C.1
  have hb := C.2.1
  have hS : va_S A s.heap s.heap [] := va_S.rf
  have hA : ∀ q : Nat, s.heap.size ≤ q → A q := hA
  obtain ⟨H, hH⟩ : ∃ H, H = s.heap := ⟨_, rfl⟩
  have hS : va_S A s.heap H [] := by rw [hH]; exact hS
  rw [← hH] at hP
  rw [show W p l e rX2_init s m [Value.ref h0].toArray below meth c s.heap [] 0 0 = W p l e rX2_init s m [Value.ref h0].toArray below meth c H [] 0 0 from by rw [hH]]
  refine lv_aload_n (pc := 0) hx hb dX2_init_0 rfl (lv_at hl 0 rfl) ?_
  refine ct_obj (pc := 1) C hts (by decide +kernel) (by decide +kernel) (by decide +kernel) hl.1 dX2_init_1 (Nat.le_of_ble_eq_true rfl) (Nat.le_of_ble_eq_true rfl) ?_
  refine lv_aload_n (pc := 4) hx hb dX2_init_4 rfl (lv_at hl 0 rfl) ?_
  refine lv_bipush (pc := 5) (v := 30) hx hb dX2_init_5 (by decide) ?_
  refine va_put (pc := 7) (D := D) (ci := 2) (v := .int 30) (ty := .int) (C := RX2) (T := TX2) (N := 14) hx hb hts (by decide +kernel) tyX2 tyX2_ok nmX2 C.2.2.2.1 C.2.2.2.2.2.2.2.1 hP hD hS 0 rfl rfl 0 (by decide) (hts (.fieldLink RX2 9 "ThriftLock$Water" "fullAt" "I") (by decide +kernel)) (fun _ h9 => h9) rfl (by decide +kernel) rfl rfl (Nat.le_of_ble_eq_true rfl) dX2_init_7 (fun H locs hP hD hS => ?_)
  have hP : va_P D vwCl [(h0, .inr (2, [.int 30, .int 0, .int 0, .int 0, .null, .null, .null, .null, .null, .null, .null, .null, .int 0, .int 0]))] H := hP
  have hD : va_D A [(h0, .inr (2, [.int 30, .int 0, .int 0, .int 0, .null, .null, .null, .null, .null, .null, .null, .null, .int 0, .int 0]))] := hD
  refine lv_aload_n (pc := 10) hx hb dX2_init_10 rfl (lv_at hl 0 rfl) ?_
  refine lv_iconst (pc := 11) (v := 4) hx hb dX2_init_11 (by decide) ?_
  refine ct_newi (pc := 12) C hA hts (by decide +kernel) hP hD hS (N' := 4) (by decide) (by decide) (by decide) (Nat.le_of_ble_eq_true rfl) (Nat.le_of_ble_eq_true rfl) dX2_init_12 (fun q1 H hP hD hS => ?_)
  have hP : va_P D vwCl [(h0, .inr (2, [.int 30, .int 0, .int 0, .int 0, .null, .null, .null, .null, .null, .null, .null, .null, .int 0, .int 0])), (q1, .inl (cI, 4, .inl (fun _ => 0)))] H := hP
  have hD : va_D A [(h0, .inr (2, [.int 30, .int 0, .int 0, .int 0, .null, .null, .null, .null, .null, .null, .null, .null, .int 0, .int 0])), (q1, .inl (cI, 4, .inl (fun _ => 0)))] := hD
  refine W.widen (k := 1) (n := 4) (Nat.le_of_ble_eq_true rfl) (Nat.le_of_ble_eq_true rfl) ?_
  refine va_putF (pc := 14) (D := D) (ci := 2) (v := .ref q1) (ty := .array .int) (C := RX2) (T := TX2) (N := 14) hx hb hts (by decide +kernel) tyX2 tyX2_ok nmX2 C.2.2.2.1 C.2.2.2.2.2.2.2.1 hP hD hS 0 rfl rfl 4 (by decide) (hts (.fieldLink RX2 15 "ThriftLock$Water" "bottom" "[I") (by decide +kernel)) (fun _ h9 => h9) rfl C.2.2.2.2.2.2.1 rfl (by decide +kernel) rfl rfl (Nat.le_of_ble_eq_true rfl) dX2_init_14 (fun H locs hP hD hS => ?_)
  have hP : va_P D vwCl [(h0, .inr (2, [.int 30, .int 0, .int 0, .int 0, .ref q1, .null, .null, .null, .null, .null, .null, .null, .int 0, .int 0])), (q1, .inl (cI, 4, .inl (fun _ => 0)))] H := hP
  have hD : va_D A [(h0, .inr (2, [.int 30, .int 0, .int 0, .int 0, .ref q1, .null, .null, .null, .null, .null, .null, .null, .int 0, .int 0])), (q1, .inl (cI, 4, .inl (fun _ => 0)))] := hD
  refine lv_aload_n (pc := 17) hx hb dX2_init_17 rfl (lv_at hl 0 rfl) ?_
  refine lv_iconst (pc := 18) (v := 4) hx hb dX2_init_18 (by decide) ?_
  refine ct_newi (pc := 19) C hA hts (by decide +kernel) hP hD hS (N' := 4) (by decide) (by decide) (by decide) (Nat.le_of_ble_eq_true rfl) (Nat.le_of_ble_eq_true rfl) dX2_init_19 (fun q2 H hP hD hS => ?_)
  have hP : va_P D vwCl [(h0, .inr (2, [.int 30, .int 0, .int 0, .int 0, .ref q1, .null, .null, .null, .null, .null, .null, .null, .int 0, .int 0])), (q1, .inl (cI, 4, .inl (fun _ => 0))), (q2, .inl (cI, 4, .inl (fun _ => 0)))] H := hP
  have hD : va_D A [(h0, .inr (2, [.int 30, .int 0, .int 0, .int 0, .ref q1, .null, .null, .null, .null, .null, .null, .null, .int 0, .int 0])), (q1, .inl (cI, 4, .inl (fun _ => 0))), (q2, .inl (cI, 4, .inl (fun _ => 0)))] := hD
  refine W.widen (k := 2) (n := 8) (Nat.le_of_ble_eq_true rfl) (Nat.le_of_ble_eq_true rfl) ?_
  refine va_putF (pc := 21) (D := D) (ci := 2) (v := .ref q2) (ty := .array .int) (C := RX2) (T := TX2) (N := 14) hx hb hts (by decide +kernel) tyX2 tyX2_ok nmX2 C.2.2.2.1 C.2.2.2.2.2.2.2.1 hP hD hS 0 rfl rfl 5 (by decide) (hts (.fieldLink RX2 19 "ThriftLock$Water" "room" "[I") (by decide +kernel)) (fun _ h9 => h9) rfl C.2.2.2.2.2.2.1 rfl (by decide +kernel) rfl rfl (Nat.le_of_ble_eq_true rfl) dX2_init_21 (fun H locs hP hD hS => ?_)
  have hP : va_P D vwCl [(h0, .inr (2, [.int 30, .int 0, .int 0, .int 0, .ref q1, .ref q2, .null, .null, .null, .null, .null, .null, .int 0, .int 0])), (q1, .inl (cI, 4, .inl (fun _ => 0))), (q2, .inl (cI, 4, .inl (fun _ => 0)))] H := hP
  have hD : va_D A [(h0, .inr (2, [.int 30, .int 0, .int 0, .int 0, .ref q1, .ref q2, .null, .null, .null, .null, .null, .null, .int 0, .int 0])), (q1, .inl (cI, 4, .inl (fun _ => 0))), (q2, .inl (cI, 4, .inl (fun _ => 0)))] := hD
  refine lv_aload_n (pc := 24) hx hb dX2_init_24 rfl (lv_at hl 0 rfl) ?_
  refine lv_iconst (pc := 25) (v := 4) hx hb dX2_init_25 (by decide) ?_
  refine ct_newi (pc := 26) C hA hts (by decide +kernel) hP hD hS (N' := 4) (by decide) (by decide) (by decide) (Nat.le_of_ble_eq_true rfl) (Nat.le_of_ble_eq_true rfl) dX2_init_26 (fun q3 H hP hD hS => ?_)
  have hP : va_P D vwCl [(h0, .inr (2, [.int 30, .int 0, .int 0, .int 0, .ref q1, .ref q2, .null, .null, .null, .null, .null, .null, .int 0, .int 0])), (q1, .inl (cI, 4, .inl (fun _ => 0))), (q2, .inl (cI, 4, .inl (fun _ => 0))), (q3, .inl (cI, 4, .inl (fun _ => 0)))] H := hP
  have hD : va_D A [(h0, .inr (2, [.int 30, .int 0, .int 0, .int 0, .ref q1, .ref q2, .null, .null, .null, .null, .null, .null, .int 0, .int 0])), (q1, .inl (cI, 4, .inl (fun _ => 0))), (q2, .inl (cI, 4, .inl (fun _ => 0))), (q3, .inl (cI, 4, .inl (fun _ => 0)))] := hD
  refine W.widen (k := 3) (n := 12) (Nat.le_of_ble_eq_true rfl) (Nat.le_of_ble_eq_true rfl) ?_
  refine va_putF (pc := 28) (D := D) (ci := 2) (v := .ref q3) (ty := .array .int) (C := RX2) (T := TX2) (N := 14) hx hb hts (by decide +kernel) tyX2 tyX2_ok nmX2 C.2.2.2.1 C.2.2.2.2.2.2.2.1 hP hD hS 0 rfl rfl 6 (by decide) (hts (.fieldLink RX2 22 "ThriftLock$Water" "wide" "[I") (by decide +kernel)) (fun _ h9 => h9) rfl C.2.2.2.2.2.2.1 rfl (by decide +kernel) rfl rfl (Nat.le_of_ble_eq_true rfl) dX2_init_28 (fun H locs hP hD hS => ?_)
  have hP : va_P D vwCl [(h0, .inr (2, [.int 30, .int 0, .int 0, .int 0, .ref q1, .ref q2, .ref q3, .null, .null, .null, .null, .null, .int 0, .int 0])), (q1, .inl (cI, 4, .inl (fun _ => 0))), (q2, .inl (cI, 4, .inl (fun _ => 0))), (q3, .inl (cI, 4, .inl (fun _ => 0)))] H := hP
  have hD : va_D A [(h0, .inr (2, [.int 30, .int 0, .int 0, .int 0, .ref q1, .ref q2, .ref q3, .null, .null, .null, .null, .null, .int 0, .int 0])), (q1, .inl (cI, 4, .inl (fun _ => 0))), (q2, .inl (cI, 4, .inl (fun _ => 0))), (q3, .inl (cI, 4, .inl (fun _ => 0)))] := hD
  refine lv_aload_n (pc := 31) hx hb dX2_init_31 rfl (lv_at hl 0 rfl) ?_
  refine lv_iconst (pc := 32) (v := 4) hx hb dX2_init_32 (by decide) ?_
  refine ct_newi (pc := 33) C hA hts (by decide +kernel) hP hD hS (N' := 4) (by decide) (by decide) (by decide) (Nat.le_of_ble_eq_true rfl) (Nat.le_of_ble_eq_true rfl) dX2_init_33 (fun q4 H hP hD hS => ?_)
  have hP : va_P D vwCl [(h0, .inr (2, [.int 30, .int 0, .int 0, .int 0, .ref q1, .ref q2, .ref q3, .null, .null, .null, .null, .null, .int 0, .int 0])), (q1, .inl (cI, 4, .inl (fun _ => 0))), (q2, .inl (cI, 4, .inl (fun _ => 0))), (q3, .inl (cI, 4, .inl (fun _ => 0))), (q4, .inl (cI, 4, .inl (fun _ => 0)))] H := hP
  have hD : va_D A [(h0, .inr (2, [.int 30, .int 0, .int 0, .int 0, .ref q1, .ref q2, .ref q3, .null, .null, .null, .null, .null, .int 0, .int 0])), (q1, .inl (cI, 4, .inl (fun _ => 0))), (q2, .inl (cI, 4, .inl (fun _ => 0))), (q3, .inl (cI, 4, .inl (fun _ => 0))), (q4, .inl (cI, 4, .inl (fun _ => 0)))] := hD
  refine W.widen (k := 4) (n := 16) (Nat.le_of_ble_eq_true rfl) (Nat.le_of_ble_eq_true rfl) ?_
  refine va_putF (pc := 35) (D := D) (ci := 2) (v := .ref q4) (ty := .array .int) (C := RX2) (T := TX2) (N := 14) hx hb hts (by decide +kernel) tyX2 tyX2_ok nmX2 C.2.2.2.1 C.2.2.2.2.2.2.2.1 hP hD hS 0 rfl rfl 7 (by decide) (hts (.fieldLink RX2 25 "ThriftLock$Water" "rise" "[I") (by decide +kernel)) (fun _ h9 => h9) rfl C.2.2.2.2.2.2.1 rfl (by decide +kernel) rfl rfl (Nat.le_of_ble_eq_true rfl) dX2_init_35 (fun H locs hP hD hS => ?_)
  have hP : va_P D vwCl [(h0, .inr (2, [.int 30, .int 0, .int 0, .int 0, .ref q1, .ref q2, .ref q3, .ref q4, .null, .null, .null, .null, .int 0, .int 0])), (q1, .inl (cI, 4, .inl (fun _ => 0))), (q2, .inl (cI, 4, .inl (fun _ => 0))), (q3, .inl (cI, 4, .inl (fun _ => 0))), (q4, .inl (cI, 4, .inl (fun _ => 0)))] H := hP
  have hD : va_D A [(h0, .inr (2, [.int 30, .int 0, .int 0, .int 0, .ref q1, .ref q2, .ref q3, .ref q4, .null, .null, .null, .null, .int 0, .int 0])), (q1, .inl (cI, 4, .inl (fun _ => 0))), (q2, .inl (cI, 4, .inl (fun _ => 0))), (q3, .inl (cI, 4, .inl (fun _ => 0))), (q4, .inl (cI, 4, .inl (fun _ => 0)))] := hD
  refine lv_aload_n (pc := 38) hx hb dX2_init_38 rfl (lv_at hl 0 rfl) ?_
  refine lv_iconst (pc := 39) (v := 4) hx hb dX2_init_39 (by decide) ?_
  refine ct_newi (pc := 40) C hA hts (by decide +kernel) hP hD hS (N' := 4) (by decide) (by decide) (by decide) (Nat.le_of_ble_eq_true rfl) (Nat.le_of_ble_eq_true rfl) dX2_init_40 (fun q5 H hP hD hS => ?_)
  have hP : va_P D vwCl [(h0, .inr (2, [.int 30, .int 0, .int 0, .int 0, .ref q1, .ref q2, .ref q3, .ref q4, .null, .null, .null, .null, .int 0, .int 0])), (q1, .inl (cI, 4, .inl (fun _ => 0))), (q2, .inl (cI, 4, .inl (fun _ => 0))), (q3, .inl (cI, 4, .inl (fun _ => 0))), (q4, .inl (cI, 4, .inl (fun _ => 0))), (q5, .inl (cI, 4, .inl (fun _ => 0)))] H := hP
  have hD : va_D A [(h0, .inr (2, [.int 30, .int 0, .int 0, .int 0, .ref q1, .ref q2, .ref q3, .ref q4, .null, .null, .null, .null, .int 0, .int 0])), (q1, .inl (cI, 4, .inl (fun _ => 0))), (q2, .inl (cI, 4, .inl (fun _ => 0))), (q3, .inl (cI, 4, .inl (fun _ => 0))), (q4, .inl (cI, 4, .inl (fun _ => 0))), (q5, .inl (cI, 4, .inl (fun _ => 0)))] := hD
  refine W.widen (k := 5) (n := 20) (Nat.le_of_ble_eq_true rfl) (Nat.le_of_ble_eq_true rfl) ?_
  refine va_putF (pc := 42) (D := D) (ci := 2) (v := .ref q5) (ty := .array .int) (C := RX2) (T := TX2) (N := 14) hx hb hts (by decide +kernel) tyX2 tyX2_ok nmX2 C.2.2.2.1 C.2.2.2.2.2.2.2.1 hP hD hS 0 rfl rfl 8 (by decide) (hts (.fieldLink RX2 28 "ThriftLock$Water" "leaks" "[I") (by decide +kernel)) (fun _ h9 => h9) rfl C.2.2.2.2.2.2.1 rfl (by decide +kernel) rfl rfl (Nat.le_of_ble_eq_true rfl) dX2_init_42 (fun H locs hP hD hS => ?_)
  have hP : va_P D vwCl [(h0, .inr (2, [.int 30, .int 0, .int 0, .int 0, .ref q1, .ref q2, .ref q3, .ref q4, .ref q5, .null, .null, .null, .int 0, .int 0])), (q1, .inl (cI, 4, .inl (fun _ => 0))), (q2, .inl (cI, 4, .inl (fun _ => 0))), (q3, .inl (cI, 4, .inl (fun _ => 0))), (q4, .inl (cI, 4, .inl (fun _ => 0))), (q5, .inl (cI, 4, .inl (fun _ => 0)))] H := hP
  have hD : va_D A [(h0, .inr (2, [.int 30, .int 0, .int 0, .int 0, .ref q1, .ref q2, .ref q3, .ref q4, .ref q5, .null, .null, .null, .int 0, .int 0])), (q1, .inl (cI, 4, .inl (fun _ => 0))), (q2, .inl (cI, 4, .inl (fun _ => 0))), (q3, .inl (cI, 4, .inl (fun _ => 0))), (q4, .inl (cI, 4, .inl (fun _ => 0))), (q5, .inl (cI, 4, .inl (fun _ => 0)))] := hD
  refine lv_aload_n (pc := 45) hx hb dX2_init_45 rfl (lv_at hl 0 rfl) ?_
  refine lv_iconst (pc := 46) (v := 4) hx hb dX2_init_46 (by decide) ?_
  refine ct_newi (pc := 47) C hA hts (by decide +kernel) hP hD hS (N' := 4) (by decide) (by decide) (by decide) (Nat.le_of_ble_eq_true rfl) (Nat.le_of_ble_eq_true rfl) dX2_init_47 (fun q6 H hP hD hS => ?_)
  have hP : va_P D vwCl [(h0, .inr (2, [.int 30, .int 0, .int 0, .int 0, .ref q1, .ref q2, .ref q3, .ref q4, .ref q5, .null, .null, .null, .int 0, .int 0])), (q1, .inl (cI, 4, .inl (fun _ => 0))), (q2, .inl (cI, 4, .inl (fun _ => 0))), (q3, .inl (cI, 4, .inl (fun _ => 0))), (q4, .inl (cI, 4, .inl (fun _ => 0))), (q5, .inl (cI, 4, .inl (fun _ => 0))), (q6, .inl (cI, 4, .inl (fun _ => 0)))] H := hP
  have hD : va_D A [(h0, .inr (2, [.int 30, .int 0, .int 0, .int 0, .ref q1, .ref q2, .ref q3, .ref q4, .ref q5, .null, .null, .null, .int 0, .int 0])), (q1, .inl (cI, 4, .inl (fun _ => 0))), (q2, .inl (cI, 4, .inl (fun _ => 0))), (q3, .inl (cI, 4, .inl (fun _ => 0))), (q4, .inl (cI, 4, .inl (fun _ => 0))), (q5, .inl (cI, 4, .inl (fun _ => 0))), (q6, .inl (cI, 4, .inl (fun _ => 0)))] := hD
  refine W.widen (k := 6) (n := 24) (Nat.le_of_ble_eq_true rfl) (Nat.le_of_ble_eq_true rfl) ?_
  refine va_putF (pc := 49) (D := D) (ci := 2) (v := .ref q6) (ty := .array .int) (C := RX2) (T := TX2) (N := 14) hx hb hts (by decide +kernel) tyX2 tyX2_ok nmX2 C.2.2.2.1 C.2.2.2.2.2.2.2.1 hP hD hS 0 rfl rfl 9 (by decide) (hts (.fieldLink RX2 31 "ThriftLock$Water" "held" "[I") (by decide +kernel)) (fun _ h9 => h9) rfl C.2.2.2.2.2.2.1 rfl (by decide +kernel) rfl rfl (Nat.le_of_ble_eq_true rfl) dX2_init_49 (fun H locs hP hD hS => ?_)
  have hP : va_P D vwCl [(h0, .inr (2, [.int 30, .int 0, .int 0, .int 0, .ref q1, .ref q2, .ref q3, .ref q4, .ref q5, .ref q6, .null, .null, .int 0, .int 0])), (q1, .inl (cI, 4, .inl (fun _ => 0))), (q2, .inl (cI, 4, .inl (fun _ => 0))), (q3, .inl (cI, 4, .inl (fun _ => 0))), (q4, .inl (cI, 4, .inl (fun _ => 0))), (q5, .inl (cI, 4, .inl (fun _ => 0))), (q6, .inl (cI, 4, .inl (fun _ => 0)))] H := hP
  have hD : va_D A [(h0, .inr (2, [.int 30, .int 0, .int 0, .int 0, .ref q1, .ref q2, .ref q3, .ref q4, .ref q5, .ref q6, .null, .null, .int 0, .int 0])), (q1, .inl (cI, 4, .inl (fun _ => 0))), (q2, .inl (cI, 4, .inl (fun _ => 0))), (q3, .inl (cI, 4, .inl (fun _ => 0))), (q4, .inl (cI, 4, .inl (fun _ => 0))), (q5, .inl (cI, 4, .inl (fun _ => 0))), (q6, .inl (cI, 4, .inl (fun _ => 0)))] := hD
  refine lv_aload_n (pc := 52) hx hb dX2_init_52 rfl (lv_at hl 0 rfl) ?_
  refine lv_bipush (pc := 53) (v := 60) hx hb dX2_init_53 (by decide) ?_
  refine ct_newi (pc := 55) C hA hts (by decide +kernel) hP hD hS (N' := 60) (by decide) (by decide) (by decide) (Nat.le_of_ble_eq_true rfl) (Nat.le_of_ble_eq_true rfl) dX2_init_55 (fun q7 H hP hD hS => ?_)
  have hP : va_P D vwCl [(h0, .inr (2, [.int 30, .int 0, .int 0, .int 0, .ref q1, .ref q2, .ref q3, .ref q4, .ref q5, .ref q6, .null, .null, .int 0, .int 0])), (q1, .inl (cI, 4, .inl (fun _ => 0))), (q2, .inl (cI, 4, .inl (fun _ => 0))), (q3, .inl (cI, 4, .inl (fun _ => 0))), (q4, .inl (cI, 4, .inl (fun _ => 0))), (q5, .inl (cI, 4, .inl (fun _ => 0))), (q6, .inl (cI, 4, .inl (fun _ => 0))), (q7, .inl (cI, 60, .inl (fun _ => 0)))] H := hP
  have hD : va_D A [(h0, .inr (2, [.int 30, .int 0, .int 0, .int 0, .ref q1, .ref q2, .ref q3, .ref q4, .ref q5, .ref q6, .null, .null, .int 0, .int 0])), (q1, .inl (cI, 4, .inl (fun _ => 0))), (q2, .inl (cI, 4, .inl (fun _ => 0))), (q3, .inl (cI, 4, .inl (fun _ => 0))), (q4, .inl (cI, 4, .inl (fun _ => 0))), (q5, .inl (cI, 4, .inl (fun _ => 0))), (q6, .inl (cI, 4, .inl (fun _ => 0))), (q7, .inl (cI, 60, .inl (fun _ => 0)))] := hD
  refine W.widen (k := 7) (n := 84) (Nat.le_of_ble_eq_true rfl) (Nat.le_of_ble_eq_true rfl) ?_
  refine va_putF (pc := 57) (D := D) (ci := 2) (v := .ref q7) (ty := .array .int) (C := RX2) (T := TX2) (N := 14) hx hb hts (by decide +kernel) tyX2 tyX2_ok nmX2 C.2.2.2.1 C.2.2.2.2.2.2.2.1 hP hD hS 0 rfl rfl 10 (by decide) (hts (.fieldLink RX2 34 "ThriftLock$Water" "steps" "[I") (by decide +kernel)) (fun _ h9 => h9) rfl C.2.2.2.2.2.2.1 rfl (by decide +kernel) rfl rfl (Nat.le_of_ble_eq_true rfl) dX2_init_57 (fun H locs hP hD hS => ?_)
  have hP : va_P D vwCl [(h0, .inr (2, [.int 30, .int 0, .int 0, .int 0, .ref q1, .ref q2, .ref q3, .ref q4, .ref q5, .ref q6, .ref q7, .null, .int 0, .int 0])), (q1, .inl (cI, 4, .inl (fun _ => 0))), (q2, .inl (cI, 4, .inl (fun _ => 0))), (q3, .inl (cI, 4, .inl (fun _ => 0))), (q4, .inl (cI, 4, .inl (fun _ => 0))), (q5, .inl (cI, 4, .inl (fun _ => 0))), (q6, .inl (cI, 4, .inl (fun _ => 0))), (q7, .inl (cI, 60, .inl (fun _ => 0)))] H := hP
  have hD : va_D A [(h0, .inr (2, [.int 30, .int 0, .int 0, .int 0, .ref q1, .ref q2, .ref q3, .ref q4, .ref q5, .ref q6, .ref q7, .null, .int 0, .int 0])), (q1, .inl (cI, 4, .inl (fun _ => 0))), (q2, .inl (cI, 4, .inl (fun _ => 0))), (q3, .inl (cI, 4, .inl (fun _ => 0))), (q4, .inl (cI, 4, .inl (fun _ => 0))), (q5, .inl (cI, 4, .inl (fun _ => 0))), (q6, .inl (cI, 4, .inl (fun _ => 0))), (q7, .inl (cI, 60, .inl (fun _ => 0)))] := hD
  refine lv_aload_n (pc := 60) hx hb dX2_init_60 rfl (lv_at hl 0 rfl) ?_
  refine lv_iconst (pc := 61) (v := 4) hx hb dX2_init_61 (by decide) ?_
  refine ct_newi (pc := 62) C hA hts (by decide +kernel) hP hD hS (N' := 4) (by decide) (by decide) (by decide) (Nat.le_of_ble_eq_true rfl) (Nat.le_of_ble_eq_true rfl) dX2_init_62 (fun q8 H hP hD hS => ?_)
  have hP : va_P D vwCl [(h0, .inr (2, [.int 30, .int 0, .int 0, .int 0, .ref q1, .ref q2, .ref q3, .ref q4, .ref q5, .ref q6, .ref q7, .null, .int 0, .int 0])), (q1, .inl (cI, 4, .inl (fun _ => 0))), (q2, .inl (cI, 4, .inl (fun _ => 0))), (q3, .inl (cI, 4, .inl (fun _ => 0))), (q4, .inl (cI, 4, .inl (fun _ => 0))), (q5, .inl (cI, 4, .inl (fun _ => 0))), (q6, .inl (cI, 4, .inl (fun _ => 0))), (q7, .inl (cI, 60, .inl (fun _ => 0))), (q8, .inl (cI, 4, .inl (fun _ => 0)))] H := hP
  have hD : va_D A [(h0, .inr (2, [.int 30, .int 0, .int 0, .int 0, .ref q1, .ref q2, .ref q3, .ref q4, .ref q5, .ref q6, .ref q7, .null, .int 0, .int 0])), (q1, .inl (cI, 4, .inl (fun _ => 0))), (q2, .inl (cI, 4, .inl (fun _ => 0))), (q3, .inl (cI, 4, .inl (fun _ => 0))), (q4, .inl (cI, 4, .inl (fun _ => 0))), (q5, .inl (cI, 4, .inl (fun _ => 0))), (q6, .inl (cI, 4, .inl (fun _ => 0))), (q7, .inl (cI, 60, .inl (fun _ => 0))), (q8, .inl (cI, 4, .inl (fun _ => 0)))] := hD
  refine W.widen (k := 8) (n := 88) (Nat.le_of_ble_eq_true rfl) (Nat.le_of_ble_eq_true rfl) ?_
  refine va_putF (pc := 64) (D := D) (ci := 2) (v := .ref q8) (ty := .array .int) (C := RX2) (T := TX2) (N := 14) hx hb hts (by decide +kernel) tyX2 tyX2_ok nmX2 C.2.2.2.1 C.2.2.2.2.2.2.2.1 hP hD hS 0 rfl rfl 11 (by decide) (hts (.fieldLink RX2 37 "ThriftLock$Water" "moved" "[I") (by decide +kernel)) (fun _ h9 => h9) rfl C.2.2.2.2.2.2.1 rfl (by decide +kernel) rfl rfl (Nat.le_of_ble_eq_true rfl) dX2_init_64 (fun H locs hP hD hS => ?_)
  have hP : va_P D vwCl [(h0, .inr (2, [.int 30, .int 0, .int 0, .int 0, .ref q1, .ref q2, .ref q3, .ref q4, .ref q5, .ref q6, .ref q7, .ref q8, .int 0, .int 0])), (q1, .inl (cI, 4, .inl (fun _ => 0))), (q2, .inl (cI, 4, .inl (fun _ => 0))), (q3, .inl (cI, 4, .inl (fun _ => 0))), (q4, .inl (cI, 4, .inl (fun _ => 0))), (q5, .inl (cI, 4, .inl (fun _ => 0))), (q6, .inl (cI, 4, .inl (fun _ => 0))), (q7, .inl (cI, 60, .inl (fun _ => 0))), (q8, .inl (cI, 4, .inl (fun _ => 0)))] H := hP
  have hD : va_D A [(h0, .inr (2, [.int 30, .int 0, .int 0, .int 0, .ref q1, .ref q2, .ref q3, .ref q4, .ref q5, .ref q6, .ref q7, .ref q8, .int 0, .int 0])), (q1, .inl (cI, 4, .inl (fun _ => 0))), (q2, .inl (cI, 4, .inl (fun _ => 0))), (q3, .inl (cI, 4, .inl (fun _ => 0))), (q4, .inl (cI, 4, .inl (fun _ => 0))), (q5, .inl (cI, 4, .inl (fun _ => 0))), (q6, .inl (cI, 4, .inl (fun _ => 0))), (q7, .inl (cI, 60, .inl (fun _ => 0))), (q8, .inl (cI, 4, .inl (fun _ => 0)))] := hD
  have hP9 := hP.sub (ws' := ct_F2 cI (fun k => [h0, q1, q2, q3, q4, q5, q6, q7, q8].getD k 0)) [0, 1, 2, 3, 4, 5, 6, 7, 8] rfl
  have hD9 := hD.sub (ws' := ct_F2 cI (fun k => [h0, q1, q2, q3, q4, q5, q6, q7, q8].getD k 0)) [0, 1, 2, 3, 4, 5, 6, 7, 8] (by decide) rfl
  exact ct_ret (pc := 67) C (fun k => [h0, q1, q2, q3, q4, q5, q6, q7, q8].getD k 0) rfl hP9 hD9 hS dX2_init_67
