abbrev rX4_waits : Room := { frames := 2, cells := 0, slots := 0, locals := 45 }
set_option maxHeartbeats 4000000 in
set_option maxRecDepth 100000 in
theorem okX4_waits (l : Launch) (g : tl_G) (hI : tl_I g) (σ : tl_St) (a1 : Int32) (a2 : Int32) (ro : Int32) (h : fX4_waits σ a1 a2 = some ro) : Met l yX4_waits wsX4_waits rX4_waits (va_Pc [.ref (tl_ad g 34), .int a1, .int a2] (tl_Pre g σ)) (tl_Qi g ro σ) 0 0 (tl_A g) := by
  refine tl_enter (cc := cX4_waits) (maxL := 3) (ret := (some .int)) (own := RX4) hI (by decide) rfl rfl (Nat.le_of_ble_eq_true rfl) ?_
  intro p e s m below meth c C hts H locs hP hS ls hl
  have hx := C.1
  have hb := C.2.1
  have hl : lv_has ls 3 [(0, .ref (tl_ad g 34)), (1, .int a1), (2, .int a2)] := hl
  have lk0 : (Cond.constantLong RX4 128 (-1)).before [.ref (tl_ad g 34), .int a1, .int a2].toArray s = true := hts _ (List.mem_cons_of_mem _ (List.mem_append_left _ (List.mem_of_getElem? (i := 0) rfl)))
  have lk1 : (Cond.constantLong RX4 130 (15)).before [.ref (tl_ad g 34), .int a1, .int a2].toArray s = true := hts _ (List.mem_cons_of_mem _ (List.mem_append_left _ (List.mem_of_getElem? (i := 1) rfl)))
  unfold fX4_waits at h
  refine lv_iload_n (pc := 0) hx hb dX4_waits_0 rfl (lv_at hl 1 rfl) ?_
  obtain ⟨r1, er1, h⟩ := tl_nm h
  refine caX4_isTwo (pc := 1) C hts hP hS er1 gX4_waits_X4_isTwo ⟨Nat.le_of_ble_eq_true rfl, Nat.le_of_ble_eq_true rfl⟩ hl.1 (Nat.le_of_ble_eq_true rfl) dX4_waits_1 (fun H locs hP hS => ?_)
  obtain ⟨k2, ek2, h⟩ := tl_j0 h
  have hJ2 : ∀ (H : Heap) (locs : List Loc) (ls : Array Slot), k2 = some ro → va_P g.1 vwCl (tl_W g σ) H → va_S (tl_A g) s.heap H locs → lv_has ls 3 [] → W p l e rX4_waits s m [.ref (tl_ad g 34), .int a1, .int a2].toArray below meth c H locs 0 0 (MQ below (tl_Qi g ro σ) [.ref (tl_ad g 34), .int a1, .int a2].toArray s 0 0 (tl_A g)) (F0 m 30 ls []) := by
    intro H locs ls h hP hS hl
    replace h := ek2.trans h
    refine lv_bipush (pc := 30) (v := (-2)) hx hb dX4_waits_30 (by decide) ?_
    exact tl_Ripr (pc := 32) C h hP hS dX4_waits_32
  refine lv_if_eq (pc := 4) (tgt := 30) hx hb dX4_waits_4 (by decide) (fun c3 => ?_) (fun c3 => ?_)
  · replace h := (if_pos c3).symm.trans h
    exact hJ2 _ _ _ h hP hS (lv_sub hl [] rfl)
  · replace h := (if_neg c3).symm.trans h
    refine lv_iload_n (pc := 7) hx hb dX4_waits_7 rfl (lv_at hl 2 rfl) ?_
    refine lv_i2l (pc := 8) hx hb dX4_waits_8 rfl ?_
    refine lv_ldc2 (pc := 9) (v := (-1)) hx hb C.2.2.2.1 lk0 dX4_waits_9 ?_
    refine lv_ldc2 (pc := 12) (v := 15) hx hb C.2.2.2.1 lk1 dX4_waits_12 ?_
    obtain ⟨r4, er4, h⟩ := tl_nm h
    refine caX4_in (pc := 15) C hts hP hS er4 gX4_waits_X4_in ⟨Nat.le_of_ble_eq_true rfl, Nat.le_of_ble_eq_true rfl⟩ hl.1 (Nat.le_of_ble_eq_true rfl) dX4_waits_15 (fun H locs hP hS => ?_)
    refine lv_if_eq (pc := 18) (tgt := 30) hx hb dX4_waits_18 (by decide) (fun c5 => ?_) (fun c5 => ?_)
    · replace h := (if_pos c5).symm.trans h
      exact hJ2 _ _ _ h hP hS (lv_sub hl [] rfl)
    · replace h := (if_neg c5).symm.trans h
      refine lv_aload_n (pc := 21) hx hb dX4_waits_21 rfl (lv_at hl 0 rfl) ?_
      refine lv_iload_n (pc := 22) hx hb dX4_waits_22 rfl (lv_at hl 1 rfl) ?_
      refine lv_iload_n (pc := 23) hx hb dX4_waits_23 rfl (lv_at hl 2 rfl) ?_
      obtain ⟨r6, er6, h⟩ := tl_o1s h
      refine caX4_waitsBy (pc := 24) C hts hP hS er6 gX4_waits_X4_waitsBy ⟨Nat.le_of_ble_eq_true rfl, Nat.le_of_ble_eq_true rfl⟩ hl.1 (Nat.le_of_ble_eq_true rfl) dX4_waits_24 (fun H locs hP hS => ?_)
      refine lv_goto (pc := 27) (tgt := 32) hx hb dX4_waits_27 (by decide) ?_
      exact tl_Ripr (pc := 32) C h hP hS dX4_waits_32
theorem caX4_waits {p : Program} {l : Launch} {e : Env} {R : Room} {s : State} {m : MethodId} {args : Array Value} {below : List Frame} {meth : Method} {c : Code} {H : Heap} {locs : List Loc} {Q : State → Prop} {cc : ByteArray} {pc : Nat} {ls : Array Slot} {rest : List Value} {g : tl_G} {σ : tl_St} {H0 : Heap} {nL : Nat} {own : String} {ret : Option FieldType} {index : Nat} (C : tl_C p s m meth c cc nL own ret g) {Ts : List Cond} (hts : ∀ w ∈ Ts, w.before args s = true) (hP : va_P g.1 vwCl (tl_W g σ) H) (hS : va_S (tl_A g) H0 H locs) {a1 : Int32} {a2 : Int32} {ro : Int32} (h : fX4_waits σ a1 a2 = some ro) (hG : GoodIn Ts (wsV own index RX4 yX4_waits wsX4_waits)) (hR : 2 + 1 ≤ R.frames ∧ 8 + (3 + 11) + 45 ≤ R.locals) (hls : ls.size = nL) (hrm : (rest.map fun v => v.category).sum ≤ 8) (hdg : decode cc pc = .ok (.invokevirtual index, 3)) (kk : ∀ (H1 : Heap) (locs1 : List Loc), va_P g.1 vwCl (tl_W g σ) H1 → va_S (tl_A g) H0 H1 locs1 → W p l e R s m args below meth c H1 locs1 0 0 Q (F0 m (pc + 3) ls (.int ro :: rest))) : W p l e R s m args below meth c H locs 0 0 Q (F0 m pc ls (.int a2 :: .int a1 :: .ref (tl_ad g 34) :: rest)) :=
  tl_goi (tl_callV C hts hP (okX4_waits l g C.2.2.2.2.2.2.2 σ a1 a2 ro h) rfl rfl rfl (n := 2) (by decide +kernel) rfl (ci := 4) rfl (tl_kM g σ) hG hR hls rfl hrm hdg) hS kk
abbrev rX4_rule : Room := { frames := 2, cells := 0, slots := 0, locals := 45 }
set_option maxHeartbeats 4000000 in
set_option maxRecDepth 100000 in
theorem okX4_rule (l : Launch) (g : tl_G) (hI : tl_I g) (σ : tl_St) (a1 : Int32) (ro : Int32) (σo : tl_St) (h : fX4_rule σ a1 = (ro, σo)) : Met l yX4_rule wsX4_rule rX4_rule (va_Pc [.ref (tl_ad g 34), .int a1] (tl_Pre g σ)) (tl_Qi g ro σo) 0 0 (tl_A g) := by
  refine tl_enter (cc := cX4_rule) (maxL := 3) (ret := (some .int)) (own := RX4) hI (by decide) rfl rfl (Nat.le_of_ble_eq_true rfl) ?_
  intro p e s m below meth c C hts H locs hP hS ls hl
  have hx := C.1
  have hb := C.2.1
  have hl : lv_has ls 3 [(0, .ref (tl_ad g 34)), (1, .int a1)] := hl
  have hc4 : ∀ w ∈ u_ws RX4 TX4 30, w.before [.ref (tl_ad g 34), .int a1].toArray s = true := fun w hw => hts w (List.mem_cons_of_mem _ (List.mem_append_right _ hw))
  have lk0 : (Cond.fieldLink RX4 135 "ThriftLockModel" "rule" "I").before [.ref (tl_ad g 34), .int a1].toArray s = true := hts _ (List.mem_cons_of_mem _ (List.mem_append_left _ (List.mem_of_getElem? (i := 0) rfl)))
  unfold fX4_rule at h
  refine lv_iload_n (pc := 0) hx hb dX4_rule_0 rfl (lv_at hl 1 rfl) ?_
  obtain ⟨r1, er1, h⟩ := tl_nm h
  refine caX4_isTwo (pc := 1) C hts hP hS er1 gX4_rule_X4_isTwo ⟨Nat.le_of_ble_eq_true rfl, Nat.le_of_ble_eq_true rfl⟩ hl.1 (Nat.le_of_ble_eq_true rfl) dX4_rule_1 (fun H locs hP hS => ?_)
  refine lv_if_ne (pc := 4) (tgt := 10) hx hb dX4_rule_4 (by decide) (fun c2 => ?_) (fun c2 => ?_)
  · replace h := (if_neg c2).symm.trans h
    refine lv_aload_n (pc := 10) hx hb dX4_rule_10 rfl (lv_at hl 0 rfl) ?_
    refine tl_gM_17 (pc := 11) C hc4 hP lk0 dX4_rule_11 ?_
    obtain ⟨x3, ex3, h⟩ := tl_nm h
    refine tl_ti ex3 ?_
    refine lv_istore_n (pc := 14) (lv' := [(2, .int x3), (0, .ref (tl_ad g 34)), (1, .int a1)]) hx hb dX4_rule_14 rfl hl (by decide) rfl (fun ls hl => ?_)
    refine lv_aload_n (pc := 15) hx hb dX4_rule_15 rfl (lv_at hl 1 rfl) ?_
    refine lv_iload_n (pc := 16) hx hb dX4_rule_16 rfl (lv_at hl 2 rfl) ?_
    obtain ⟨σ4, eσ4, h⟩ := tl_nm h
    refine tl_sM_17 (pc := 17) C hc4 hP hS eσ4 lk0 dX4_rule_17 (fun H locs hP hS => ?_)
    refine lv_iload_n (pc := 20) hx hb dX4_rule_20 rfl (lv_at hl 0 rfl) ?_
    exact tl_Ritw (pc := 21) C h hP hS dX4_rule_21
  · replace h := (if_pos c2).symm.trans h
    refine lv_bipush (pc := 7) (v := (-2)) hx hb dX4_rule_7 (by decide) ?_
    exact tl_Ritw (pc := 9) C h hP hS dX4_rule_9
theorem caX4_rule {p : Program} {l : Launch} {e : Env} {R : Room} {s : State} {m : MethodId} {args : Array Value} {below : List Frame} {meth : Method} {c : Code} {H : Heap} {locs : List Loc} {Q : State → Prop} {cc : ByteArray} {pc : Nat} {ls : Array Slot} {rest : List Value} {g : tl_G} {σ : tl_St} {H0 : Heap} {nL : Nat} {own : String} {ret : Option FieldType} {index : Nat} (C : tl_C p s m meth c cc nL own ret g) {Ts : List Cond} (hts : ∀ w ∈ Ts, w.before args s = true) (hP : va_P g.1 vwCl (tl_W g σ) H) (hS : va_S (tl_A g) H0 H locs) {a1 : Int32} {ro : Int32} {σo : tl_St} (h : fX4_rule σ a1 = (ro, σo)) (hG : GoodIn Ts (wsV own index RX4 yX4_rule wsX4_rule)) (hR : 2 + 1 ≤ R.frames ∧ 8 + (3 + 11) + 45 ≤ R.locals) (hls : ls.size = nL) (hrm : (rest.map fun v => v.category).sum ≤ 8) (hdg : decode cc pc = .ok (.invokevirtual index, 3)) (kk : ∀ (H1 : Heap) (locs1 : List Loc), va_P g.1 vwCl (tl_W g σo) H1 → va_S (tl_A g) H0 H1 locs1 → W p l e R s m args below meth c H1 locs1 0 0 Q (F0 m (pc + 3) ls (.int ro :: rest))) : W p l e R s m args below meth c H locs 0 0 Q (F0 m pc ls (.int a1 :: .ref (tl_ad g 34) :: rest)) :=
  tl_goi (tl_callV C hts hP (okX4_rule l g C.2.2.2.2.2.2.2 σ a1 ro σo h) rfl rfl rfl (n := 1) (by decide +kernel) rfl (ci := 4) rfl (tl_kM g σ) hG hR hls rfl hrm hdg) hS kk
abbrev rX4_isSide : Room := { frames := 0, cells := 0, slots := 0, locals := 0 }
set_option maxHeartbeats 4000000 in
set_option maxRecDepth 100000 in
theorem okX4_isSide (l : Launch) (g : tl_G) (hI : tl_I g) (σ : tl_St) (a1 : Int32) (ro : Int32) (h : fX4_isSide σ a1 = ro) : Met l yX4_isSide wsX4_isSide rX4_isSide (va_Pc [.ref (tl_ad g 34), .int a1] (tl_Pre g σ)) (tl_Qi g ro σ) 0 0 (tl_A g) := by
  refine tl_enter (cc := cX4_isSide) (maxL := 2) (ret := (some .boolean)) (own := RX4) hI (by decide) rfl rfl (Nat.le_of_ble_eq_true rfl) ?_
  intro p e s m below meth c C hts H locs hP hS ls hl
  have hx := C.1
  have hb := C.2.1
  have hl : lv_has ls 2 [(0, .ref (tl_ad g 34)), (1, .int a1)] := hl
  have hc4 : ∀ w ∈ u_ws RX4 TX4 30, w.before [.ref (tl_ad g 34), .int a1].toArray s = true := fun w hw => hts w (List.mem_cons_of_mem _ (List.mem_append_right _ hw))
  have lk0 : (Cond.fieldLink RX4 90 "ThriftLockModel" "full" "Z").before [.ref (tl_ad g 34), .int a1].toArray s = true := hts _ (List.mem_cons_of_mem _ (List.mem_append_left _ (List.mem_of_getElem? (i := 0) rfl)))
  unfold fX4_isSide at h
  refine lv_aload_n (pc := 0) hx hb dX4_isSide_0 rfl (lv_at hl 0 rfl) ?_
  refine tl_gM_6 (pc := 1) C hc4 hP lk0 dX4_isSide_1 ?_
  refine lv_iload_n (pc := 4) hx hb dX4_isSide_4 rfl (lv_at hl 1 rfl) ?_
  obtain ⟨k2, ek2, h⟩ := tl_j1 h
  have hJ2 : ∀ (x1 : Int32) (H : Heap) (locs : List Loc) (ls : Array Slot), k2 x1 = ro → va_P g.1 vwCl (tl_W g σ) H → va_S (tl_A g) s.heap H locs → lv_has ls 2 [] → W p l e rX4_isSide s m [.ref (tl_ad g 34), .int a1].toArray below meth c H locs 0 0 (MQ below (tl_Qi g ro σ) [.ref (tl_ad g 34), .int a1].toArray s 0 0 (tl_A g)) (F0 m 13 ls [.int x1, .int (σ 34 6)]) := by
    intro x1 H locs ls h hP hS hl
    replace h := (ek2 x1).trans h
    refine lv_icmp_ne (pc := 13) (tgt := 20) hx hb dX4_isSide_13 (by decide) (fun c3 => ?_) (fun c3 => ?_)
    · replace h := (if_neg c3).symm.trans h
      refine lv_iconst (pc := 20) (v := 0) hx hb dX4_isSide_20 (by decide) ?_
      exact tl_Rztr (pc := 21) C h hP hS (Or.inl rfl) dX4_isSide_21
    · replace h := (if_pos c3).symm.trans h
      refine lv_iconst (pc := 16) (v := 1) hx hb dX4_isSide_16 (by decide) ?_
      refine lv_goto (pc := 17) (tgt := 21) hx hb dX4_isSide_17 (by decide) ?_
      exact tl_Rztr (pc := 21) C h hP hS (Or.inr rfl) dX4_isSide_21
  refine lv_if_ne (pc := 5) (tgt := 12) hx hb dX4_isSide_5 (by decide) (fun c4 => ?_) (fun c4 => ?_)
  · replace h := (if_neg c4).symm.trans h
    refine lv_iconst (pc := 12) (v := 0) hx hb dX4_isSide_12 (by decide) ?_
    exact hJ2 0 _ _ _ h hP hS (lv_sub hl [] rfl)
  · replace h := (if_pos c4).symm.trans h
    refine lv_iconst (pc := 8) (v := 1) hx hb dX4_isSide_8 (by decide) ?_
    refine lv_goto (pc := 9) (tgt := 13) hx hb dX4_isSide_9 (by decide) ?_
    exact hJ2 1 _ _ _ h hP hS (lv_sub hl [] rfl)
theorem caX4_isSide {p : Program} {l : Launch} {e : Env} {R : Room} {s : State} {m : MethodId} {args : Array Value} {below : List Frame} {meth : Method} {c : Code} {H : Heap} {locs : List Loc} {Q : State → Prop} {cc : ByteArray} {pc : Nat} {ls : Array Slot} {rest : List Value} {g : tl_G} {σ : tl_St} {H0 : Heap} {nL : Nat} {own : String} {ret : Option FieldType} {index : Nat} (C : tl_C p s m meth c cc nL own ret g) {Ts : List Cond} (hts : ∀ w ∈ Ts, w.before args s = true) (hP : va_P g.1 vwCl (tl_W g σ) H) (hS : va_S (tl_A g) H0 H locs) {a1 : Int32} {ro : Int32} (h : fX4_isSide σ a1 = ro) (hG : GoodIn Ts (wsV own index RX4 yX4_isSide wsX4_isSide)) (hR : 0 + 1 ≤ R.frames ∧ 8 + (2 + 11) + 0 ≤ R.locals) (hls : ls.size = nL) (hrm : (rest.map fun v => v.category).sum ≤ 8) (hdg : decode cc pc = .ok (.invokevirtual index, 3)) (kk : ∀ (H1 : Heap) (locs1 : List Loc), va_P g.1 vwCl (tl_W g σ) H1 → va_S (tl_A g) H0 H1 locs1 → W p l e R s m args below meth c H1 locs1 0 0 Q (F0 m (pc + 3) ls (.int ro :: rest))) : W p l e R s m args below meth c H locs 0 0 Q (F0 m pc ls (.int a1 :: .ref (tl_ad g 34) :: rest)) :=
  tl_goi (tl_callV C hts hP (okX4_isSide l g C.2.2.2.2.2.2.2 σ a1 ro h) rfl rfl rfl (n := 1) (by decide +kernel) rfl (ci := 4) rfl (tl_kM g σ) hG hR hls rfl hrm hdg) hS kk
abbrev rX4_nextBoat : Room := { frames := 1, cells := 0, slots := 0, locals := 21 }
set_option maxHeartbeats 4000000 in
set_option maxRecDepth 100000 in
theorem okX4_nextBoat (l : Launch) (g : tl_G) (hI : tl_I g) (σ : tl_St) (ro : Int32) (h : fX4_nextBoat σ = some ro) : Met l yX4_nextBoat wsX4_nextBoat rX4_nextBoat (va_Pc [.ref (tl_ad g 34)] (tl_Pre g σ)) (tl_Qi g ro σ) 0 0 (tl_A g) := by
  refine tl_enter (cc := cX4_nextBoat) (maxL := 4) (ret := (some .int)) (own := RX4) hI (by decide) rfl rfl (Nat.le_of_ble_eq_true rfl) ?_
  intro p e s m below meth c C hts H locs hP hS ls hl
  have hx := C.1
  have hb := C.2.1
  have hl : lv_has ls 4 [(0, .ref (tl_ad g 34))] := hl
  have hc4 : ∀ w ∈ u_ws RX4 TX4 30, w.before [.ref (tl_ad g 34)].toArray s = true := fun w hw => hts w (List.mem_cons_of_mem _ (List.mem_append_right _ hw))
  have lk0 : (Cond.fieldLink RX4 119 "ThriftLockModel" "came" "I").before [.ref (tl_ad g 34)].toArray s = true := hts _ (List.mem_cons_of_mem _ (List.mem_append_left _ (List.mem_of_getElem? (i := 0) rfl)))
  have lk1 : (Cond.fieldLink RX4 135 "ThriftLockModel" "rule" "I").before [.ref (tl_ad g 34)].toArray s = true := hts _ (List.mem_cons_of_mem _ (List.mem_append_left _ (List.mem_of_getElem? (i := 3) rfl)))
  have lk2 : (Cond.fieldLink RX4 40 "ThriftLockModel" "isWaiting" "[Z").before [.ref (tl_ad g 34)].toArray s = true := hts _ (List.mem_cons_of_mem _ (List.mem_append_left _ (List.mem_of_getElem? (i := 1) rfl)))
  have lk3 : (Cond.fieldLink RX4 37 "ThriftLockModel" "wayOf" "[I").before [.ref (tl_ad g 34)].toArray s = true := hts _ (List.mem_cons_of_mem _ (List.mem_append_left _ (List.mem_of_getElem? (i := 2) rfl)))
  unfold fX4_nextBoat at h
  refine lv_iconst (pc := 0) (v := (-1)) hx hb dX4_nextBoat_0 (by decide) ?_
  refine lv_istore_n (pc := 1) (lv' := [(1, .int (-1)), (0, .ref (tl_ad g 34))]) hx hb dX4_nextBoat_1 rfl hl (by decide) rfl (fun ls hl => ?_)
  refine lv_iconst (pc := 2) (v := (-1)) hx hb dX4_nextBoat_2 (by decide) ?_
  refine lv_istore_n (pc := 3) (lv' := [(2, .int (-1)), (1, .int (-1)), (0, .ref (tl_ad g 34))]) hx hb dX4_nextBoat_3 rfl hl (by decide) rfl (fun ls hl => ?_)
  refine lv_aload_n (pc := 4) hx hb dX4_nextBoat_4 rfl (lv_at hl 2 rfl) ?_
  refine tl_gM_14 (pc := 5) C hc4 hP lk0 dX4_nextBoat_5 ?_
  refine lv_iconst (pc := 8) (v := 1) hx hb dX4_nextBoat_8 (by decide) ?_
  refine lv_isub (pc := 9) hx hb dX4_nextBoat_9 ?_
  obtain ⟨x1, ex1, h⟩ := tl_nm h
  refine tl_ti ex1 ?_
  refine lv_istore_n (pc := 10) (lv' := [(3, .int x1), (2, .int (-1)), (1, .int (-1)), (0, .ref (tl_ad g 34))]) hx hb dX4_nextBoat_10 rfl hl (by decide) rfl (fun ls hl => ?_)
  obtain ⟨k4, ek4, h⟩ := tl_j2 h
  have hZ4 : ∀ (x2 : Int32) (x3 : Int32) (H : Heap) (locs : List Loc) (ls : Array Slot), k4 x2 x3 = some ro → va_P g.1 vwCl (tl_W g σ) H → va_S (tl_A g) s.heap H locs → lv_has ls 4 [(0, .ref (tl_ad g 34)), (1, .int x2), (2, .int x3)] → W p l e rX4_nextBoat s m [.ref (tl_ad g 34)].toArray below meth c H locs 0 0 (MQ below (tl_Qi g ro σ) [.ref (tl_ad g 34)].toArray s 0 0 (tl_A g)) (F0 m 64 ls []) := by
    intro x2 x3 H locs ls h hP hS hl
    replace h := (ek4 x2 x3).trans h
    refine lv_aload_n (pc := 64) hx hb dX4_nextBoat_64 rfl (lv_at hl 0 rfl) ?_
    refine tl_gM_17 (pc := 65) C hc4 hP lk1 dX4_nextBoat_65 ?_
    refine lv_iconst (pc := 68) (v := 1) hx hb dX4_nextBoat_68 (by decide) ?_
    obtain ⟨k5, ek5, h⟩ := tl_j0 h
    have hJ5 : ∀ (H : Heap) (locs : List Loc) (ls : Array Slot), k5 = some ro → va_P g.1 vwCl (tl_W g σ) H → va_S (tl_A g) s.heap H locs → lv_has ls 4 [(1, .int x2)] → W p l e rX4_nextBoat s m [.ref (tl_ad g 34)].toArray below meth c H locs 0 0 (MQ below (tl_Qi g ro σ) [.ref (tl_ad g 34)].toArray s 0 0 (tl_A g)) (F0 m 81 ls []) := by
      intro H locs ls h hP hS hl
      replace h := ek5.trans h
      refine lv_iload_n (pc := 81) hx hb dX4_nextBoat_81 rfl (lv_at hl 0 rfl) ?_
      exact tl_Ripr (pc := 82) C h hP hS dX4_nextBoat_82
    refine lv_icmp_ne (pc := 69) (tgt := 81) hx hb dX4_nextBoat_69 (by decide) (fun c6 => ?_) (fun c6 => ?_)
    · replace h := (if_neg c6).symm.trans h
      exact hJ5 _ _ _ h hP hS (lv_sub hl [1] rfl)
    · replace h := (if_pos c6).symm.trans h
      refine lv_iload_n (pc := 72) hx hb dX4_nextBoat_72 rfl (lv_at hl 2 rfl) ?_
      refine lv_iconst (pc := 73) (v := (-1)) hx hb dX4_nextBoat_73 (by decide) ?_
      refine lv_icmp_eq (pc := 74) (tgt := 81) hx hb dX4_nextBoat_74 (by decide) (fun c7 => ?_) (fun c7 => ?_)
      · replace h := (if_pos c7).symm.trans h
        exact hJ5 _ _ _ h hP hS (lv_sub hl [1] rfl)
      · replace h := (if_neg c7).symm.trans h
        refine lv_iload_n (pc := 77) hx hb dX4_nextBoat_77 rfl (lv_at hl 2 rfl) ?_
        refine lv_goto (pc := 78) (tgt := 82) hx hb dX4_nextBoat_78 (by decide) ?_
        exact tl_Ripr (pc := 82) C h hP hS dX4_nextBoat_82
  have hL11 : ∀ (n : Nat) (x8 : Int32) (x9 : Int32) (x10 : Int32) (H : Heap) (locs : List Loc) (ls : Array Slot), fX4_nextBoat_L11 σ k4 n x8 x9 x10 = some ro → va_P g.1 vwCl (tl_W g σ) H → va_S (tl_A g) s.heap H locs → lv_has ls 4 [(0, .ref (tl_ad g 34)), (1, .int x8), (2, .int x9), (3, .int x10)] → W p l e rX4_nextBoat s m [.ref (tl_ad g 34)].toArray below meth c H locs 0 0 (MQ below (tl_Qi g ro σ) [.ref (tl_ad g 34)].toArray s 0 0 (tl_A g)) (F0 m 11 ls []) := by
    intro n
    induction n with
    | zero =>
      intro x8 x9 x10 H locs ls h hP hS hl
      rw [fX4_nextBoat_L11] at h
      cases h
    | succ n ih =>
      intro x8 x9 x10 H locs ls h hP hS hl
      rw [fX4_nextBoat_L11] at h
      refine lv_iload_n (pc := 11) hx hb dX4_nextBoat_11 rfl (lv_at hl 3 rfl) ?_
      refine lv_if_lt (pc := 12) (tgt := 64) hx hb dX4_nextBoat_12 (by decide) (fun c11 => ?_) (fun c11 => ?_)
      · replace h := (if_pos c11).symm.trans h
        exact hZ4 x8 x9 _ _ _ h hP hS (lv_sub hl [0, 1, 2] rfl)
      · replace h := (if_neg c11).symm.trans h
        refine lv_aload_n (pc := 15) hx hb dX4_nextBoat_15 rfl (lv_at hl 0 rfl) ?_
        refine tl_gM_16 (pc := 16) C hc4 hP lk2 dX4_nextBoat_16 ?_
        refine lv_iload_n (pc := 19) hx hb dX4_nextBoat_19 rfl (lv_at hl 3 rfl) ?_
        obtain ⟨g12, h⟩ := tl_gd h
        refine tl_zald (pc := 20) C hP g12 dX4_nextBoat_20 ?_
        obtain ⟨k14, ek14, h⟩ := tl_j1 h
        have hJ14 : ∀ (x13 : Int32) (H : Heap) (locs : List Loc) (ls : Array Slot), k14 x13 = some ro → va_P g.1 vwCl (tl_W g σ) H → va_S (tl_A g) s.heap H locs → lv_has ls 4 [(0, .ref (tl_ad g 34)), (2, .int x9), (3, .int x10)] → W p l e rX4_nextBoat s m [.ref (tl_ad g 34)].toArray below meth c H locs 0 0 (MQ below (tl_Qi g ro σ) [.ref (tl_ad g 34)].toArray s 0 0 (tl_A g)) (F0 m 29 ls [.int x13]) := by
          intro x13 H locs ls h hP hS hl
          replace h := (ek14 x13).trans h
          refine lv_istore_n (pc := 29) (lv' := [(1, .int x13), (0, .ref (tl_ad g 34)), (2, .int x9), (3, .int x10)]) hx hb dX4_nextBoat_29 rfl hl (by decide) rfl (fun ls hl => ?_)
          refine lv_aload_n (pc := 30) hx hb dX4_nextBoat_30 rfl (lv_at hl 1 rfl) ?_
          refine tl_gM_16 (pc := 31) C hc4 hP lk2 dX4_nextBoat_31 ?_
          refine lv_iload_n (pc := 34) hx hb dX4_nextBoat_34 rfl (lv_at hl 3 rfl) ?_
          obtain ⟨g15, h⟩ := tl_gd h
          refine tl_zald (pc := 35) C hP g15 dX4_nextBoat_35 ?_
          obtain ⟨k17, ek17, h⟩ := tl_j1 h
          have hJ17 : ∀ (x16 : Int32) (H : Heap) (locs : List Loc) (ls : Array Slot), k17 x16 = some ro → va_P g.1 vwCl (tl_W g σ) H → va_S (tl_A g) s.heap H locs → lv_has ls 4 [(0, .ref (tl_ad g 34)), (1, .int x13), (3, .int x10)] → W p l e rX4_nextBoat s m [.ref (tl_ad g 34)].toArray below meth c H locs 0 0 (MQ below (tl_Qi g ro σ) [.ref (tl_ad g 34)].toArray s 0 0 (tl_A g)) (F0 m 57 ls [.int x16]) := by
            intro x16 H locs ls h hP hS hl
            replace h := (ek17 x16).trans h
            refine lv_istore_n (pc := 57) (lv' := [(2, .int x16), (0, .ref (tl_ad g 34)), (1, .int x13), (3, .int x10)]) hx hb dX4_nextBoat_57 rfl hl (by decide) rfl (fun ls hl => ?_)
            obtain ⟨x18, ex18, h⟩ := tl_nm h
            refine lv_iinc (pc := 58) (v := x18) (lv' := [(3, .int x18), (2, .int x16), (0, .ref (tl_ad g 34)), (1, .int x13)]) hx hb dX4_nextBoat_58 hl (k := 3) rfl ex18 (by decide) rfl (fun ls hl => ?_)
            refine lv_goto (pc := 61) (tgt := 11) hx hb dX4_nextBoat_61 (by decide) ?_
            exact ih x13 x16 x18 _ _ _ h hP hS (lv_sub hl [2, 3, 1, 0] rfl)
          obtain ⟨k19, ek19, h⟩ := tl_j0 h
          have hJ19 : ∀ (H : Heap) (locs : List Loc) (ls : Array Slot), k19 = some ro → va_P g.1 vwCl (tl_W g σ) H → va_S (tl_A g) s.heap H locs → lv_has ls 4 [(0, .ref (tl_ad g 34)), (1, .int x13), (2, .int x9), (3, .int x10)] → W p l e rX4_nextBoat s m [.ref (tl_ad g 34)].toArray below meth c H locs 0 0 (MQ below (tl_Qi g ro σ) [.ref (tl_ad g 34)].toArray s 0 0 (tl_A g)) (F0 m 56 ls []) := by
            intro H locs ls h hP hS hl
            replace h := ek19.trans h
            refine lv_iload_n (pc := 56) hx hb dX4_nextBoat_56 rfl (lv_at hl 2 rfl) ?_
            exact hJ17 x9 _ _ _ h hP hS (lv_sub hl [0, 1, 3] rfl)
          refine lv_if_eq (pc := 36) (tgt := 56) hx hb dX4_nextBoat_36 (by decide) (fun c20 => ?_) (fun c20 => ?_)
          · replace h := (if_pos c20).symm.trans h
            exact hJ19 _ _ _ h hP hS (lv_sub hl [1, 0, 2, 3] rfl)
          · replace h := (if_neg c20).symm.trans h
            refine lv_aload_n (pc := 39) hx hb dX4_nextBoat_39 rfl (lv_at hl 1 rfl) ?_
            refine lv_aload_n (pc := 40) hx hb dX4_nextBoat_40 rfl (lv_at hl 1 rfl) ?_
            refine tl_gM_15 (pc := 41) C hc4 hP lk3 dX4_nextBoat_41 ?_
            refine lv_iload_n (pc := 44) hx hb dX4_nextBoat_44 rfl (lv_at hl 3 rfl) ?_
            obtain ⟨g21, h⟩ := tl_gd h
            refine tl_ald (pc := 45) C hP (tl_a44 g) g21 dX4_nextBoat_45 ?_
            obtain ⟨r22, er22, h⟩ := tl_nm h
            refine caX4_isSide (pc := 46) C hts hP hS er22 gX4_nextBoat_X4_isSide ⟨Nat.le_of_ble_eq_true rfl, Nat.le_of_ble_eq_true rfl⟩ hl.1 (Nat.le_of_ble_eq_true rfl) dX4_nextBoat_46 (fun H locs hP hS => ?_)
            refine lv_if_eq (pc := 49) (tgt := 56) hx hb dX4_nextBoat_49 (by decide) (fun c23 => ?_) (fun c23 => ?_)
            · replace h := (if_pos c23).symm.trans h
              exact hJ19 _ _ _ h hP hS (lv_sub hl [1, 0, 2, 3] rfl)
            · replace h := (if_neg c23).symm.trans h
              refine lv_iload_n (pc := 52) hx hb dX4_nextBoat_52 rfl (lv_at hl 3 rfl) ?_
              refine lv_goto (pc := 53) (tgt := 57) hx hb dX4_nextBoat_53 (by decide) ?_
              exact hJ17 x10 _ _ _ h hP hS (lv_sub hl [1, 0, 3] rfl)
        refine lv_if_eq (pc := 21) (tgt := 28) hx hb dX4_nextBoat_21 (by decide) (fun c24 => ?_) (fun c24 => ?_)
        · replace h := (if_pos c24).symm.trans h
          refine lv_iload_n (pc := 28) hx hb dX4_nextBoat_28 rfl (lv_at hl 1 rfl) ?_
          exact hJ14 x8 _ _ _ h hP hS (lv_sub hl [0, 2, 3] rfl)
        · replace h := (if_neg c24).symm.trans h
          refine lv_iload_n (pc := 24) hx hb dX4_nextBoat_24 rfl (lv_at hl 3 rfl) ?_
          refine lv_goto (pc := 25) (tgt := 29) hx hb dX4_nextBoat_25 (by decide) ?_
          exact hJ14 x10 _ _ _ h hP hS (lv_sub hl [0, 2, 3] rfl)
  exact hL11 1000 (-1) (-1) x1 _ _ _ h hP hS (lv_sub hl [3, 2, 1, 0] rfl)
theorem caX4_nextBoat {p : Program} {l : Launch} {e : Env} {R : Room} {s : State} {m : MethodId} {args : Array Value} {below : List Frame} {meth : Method} {c : Code} {H : Heap} {locs : List Loc} {Q : State → Prop} {cc : ByteArray} {pc : Nat} {ls : Array Slot} {rest : List Value} {g : tl_G} {σ : tl_St} {H0 : Heap} {nL : Nat} {own : String} {ret : Option FieldType} {index : Nat} (C : tl_C p s m meth c cc nL own ret g) {Ts : List Cond} (hts : ∀ w ∈ Ts, w.before args s = true) (hP : va_P g.1 vwCl (tl_W g σ) H) (hS : va_S (tl_A g) H0 H locs) {ro : Int32} (h : fX4_nextBoat σ = some ro) (hG : GoodIn Ts (wsV own index RX4 yX4_nextBoat wsX4_nextBoat)) (hR : 1 + 1 ≤ R.frames ∧ 8 + (4 + 11) + 21 ≤ R.locals) (hls : ls.size = nL) (hrm : (rest.map fun v => v.category).sum ≤ 8) (hdg : decode cc pc = .ok (.invokevirtual index, 3)) (kk : ∀ (H1 : Heap) (locs1 : List Loc), va_P g.1 vwCl (tl_W g σ) H1 → va_S (tl_A g) H0 H1 locs1 → W p l e R s m args below meth c H1 locs1 0 0 Q (F0 m (pc + 3) ls (.int ro :: rest))) : W p l e R s m args below meth c H locs 0 0 Q (F0 m pc ls (.ref (tl_ad g 34) :: rest)) :=
  tl_goi (tl_callV C hts hP (okX4_nextBoat l g C.2.2.2.2.2.2.2 σ ro h) rfl rfl rfl (n := 0) (by decide +kernel) rfl (ci := 4) rfl (tl_kM g σ) hG hR hls rfl hrm hdg) hS kk
abbrev rX4_nextBy : Room := { frames := 2, cells := 0, slots := 0, locals := 44 }
set_option maxHeartbeats 4000000 in
set_option maxRecDepth 100000 in
theorem okX4_nextBy (l : Launch) (g : tl_G) (hI : tl_I g) (σ : tl_St) (a1 : Int32) (ro : Int32) (h : fX4_nextBy σ a1 = some ro) : Met l yX4_nextBy wsX4_nextBy rX4_nextBy (va_Pc [.ref (tl_ad g 34), .int a1] (tl_Pre g σ)) (tl_Qi g ro σ) 0 0 (tl_A g) := by
  refine tl_enter (cc := cX4_nextBy) (maxL := 3) (ret := (some .int)) (own := RX4) hI (by decide) rfl rfl (Nat.le_of_ble_eq_true rfl) ?_
  intro p e s m below meth c C hts H locs hP hS ls hl
  have hx := C.1
  have hb := C.2.1
  have hl : lv_has ls 3 [(0, .ref (tl_ad g 34)), (1, .int a1)] := hl
  have hc4 : ∀ w ∈ u_ws RX4 TX4 30, w.before [.ref (tl_ad g 34), .int a1].toArray s = true := fun w hw => hts w (List.mem_cons_of_mem _ (List.mem_append_right _ hw))
  have lk0 : (Cond.fieldLink RX4 37 "ThriftLockModel" "wayOf" "[I").before [.ref (tl_ad g 34), .int a1].toArray s = true := hts _ (List.mem_cons_of_mem _ (List.mem_append_left _ (List.mem_of_getElem? (i := 0) rfl)))
  unfold fX4_nextBy at h
  refine lv_aload_n (pc := 0) hx hb dX4_nextBy_0 rfl (lv_at hl 0 rfl) ?_
  obtain ⟨r1, er1, h⟩ := tl_o1s h
  refine caX4_nextBoat (pc := 1) C hts hP hS er1 gX4_nextBy_X4_nextBoat ⟨Nat.le_of_ble_eq_true rfl, Nat.le_of_ble_eq_true rfl⟩ hl.1 (Nat.le_of_ble_eq_true rfl) dX4_nextBy_1 (fun H locs hP hS => ?_)
  refine lv_istore_n (pc := 4) (lv' := [(2, .int r1), (0, .ref (tl_ad g 34)), (1, .int a1)]) hx hb dX4_nextBy_4 rfl hl (by decide) rfl (fun ls hl => ?_)
  refine lv_iload_n (pc := 5) hx hb dX4_nextBy_5 rfl (lv_at hl 2 rfl) ?_
  refine lv_if_ne (pc := 6) (tgt := 13) hx hb dX4_nextBy_6 (by decide) (fun c2 => ?_) (fun c2 => ?_)
  · replace h := (if_neg c2).symm.trans h
    refine lv_iload_n (pc := 13) hx hb dX4_nextBy_13 rfl (lv_at hl 0 rfl) ?_
    refine lv_iconst (pc := 14) (v := (-1)) hx hb dX4_nextBy_14 (by decide) ?_
    refine lv_icmp_ne (pc := 15) (tgt := 22) hx hb dX4_nextBy_15 (by decide) (fun c3 => ?_) (fun c3 => ?_)
    · replace h := (if_neg c3).symm.trans h
      refine lv_aload_n (pc := 22) hx hb dX4_nextBy_22 rfl (lv_at hl 1 rfl) ?_
      refine lv_aload_n (pc := 23) hx hb dX4_nextBy_23 rfl (lv_at hl 1 rfl) ?_
      refine tl_gM_15 (pc := 24) C hc4 hP lk0 dX4_nextBy_24 ?_
      refine lv_iload_n (pc := 27) hx hb dX4_nextBy_27 rfl (lv_at hl 0 rfl) ?_
      obtain ⟨g4, h⟩ := tl_gd h
      refine tl_ald (pc := 28) C hP (tl_a44 g) g4 dX4_nextBy_28 ?_
      obtain ⟨r5, er5, h⟩ := tl_nm h
      refine caX4_isSide (pc := 29) C hts hP hS er5 gX4_nextBy_X4_isSide ⟨Nat.le_of_ble_eq_true rfl, Nat.le_of_ble_eq_true rfl⟩ hl.1 (Nat.le_of_ble_eq_true rfl) dX4_nextBy_29 (fun H locs hP hS => ?_)
      refine lv_if_eq (pc := 32) (tgt := 39) hx hb dX4_nextBy_32 (by decide) (fun c6 => ?_) (fun c6 => ?_)
      · replace h := (if_pos c6).symm.trans h
        refine lv_iconst (pc := 39) (v := 2) hx hb dX4_nextBy_39 (by decide) ?_
        exact tl_Ripr (pc := 40) C h hP hS dX4_nextBy_40
      · replace h := (if_neg c6).symm.trans h
        refine lv_iconst (pc := 35) (v := 1) hx hb dX4_nextBy_35 (by decide) ?_
        refine lv_goto (pc := 36) (tgt := 40) hx hb dX4_nextBy_36 (by decide) ?_
        exact tl_Ripr (pc := 40) C h hP hS dX4_nextBy_40
    · replace h := (if_pos c3).symm.trans h
      refine lv_iconst (pc := 18) (v := 0) hx hb dX4_nextBy_18 (by decide) ?_
      refine lv_goto (pc := 19) (tgt := 40) hx hb dX4_nextBy_19 (by decide) ?_
      exact tl_Ripr (pc := 40) C h hP hS dX4_nextBy_40
  · replace h := (if_pos c2).symm.trans h
    refine lv_iload_n (pc := 9) hx hb dX4_nextBy_9 rfl (lv_at hl 0 rfl) ?_
    refine lv_goto (pc := 10) (tgt := 40) hx hb dX4_nextBy_10 (by decide) ?_
    exact tl_Ripr (pc := 40) C h hP hS dX4_nextBy_40
theorem caX4_nextBy {p : Program} {l : Launch} {e : Env} {R : Room} {s : State} {m : MethodId} {args : Array Value} {below : List Frame} {meth : Method} {c : Code} {H : Heap} {locs : List Loc} {Q : State → Prop} {cc : ByteArray} {pc : Nat} {ls : Array Slot} {rest : List Value} {g : tl_G} {σ : tl_St} {H0 : Heap} {nL : Nat} {own : String} {ret : Option FieldType} {index : Nat} (C : tl_C p s m meth c cc nL own ret g) {Ts : List Cond} (hts : ∀ w ∈ Ts, w.before args s = true) (hP : va_P g.1 vwCl (tl_W g σ) H) (hS : va_S (tl_A g) H0 H locs) {a1 : Int32} {ro : Int32} (h : fX4_nextBy σ a1 = some ro) (hG : GoodIn Ts (wsV own index RX4 yX4_nextBy wsX4_nextBy)) (hR : 2 + 1 ≤ R.frames ∧ 8 + (3 + 11) + 44 ≤ R.locals) (hls : ls.size = nL) (hrm : (rest.map fun v => v.category).sum ≤ 8) (hdg : decode cc pc = .ok (.invokevirtual index, 3)) (kk : ∀ (H1 : Heap) (locs1 : List Loc), va_P g.1 vwCl (tl_W g σ) H1 → va_S (tl_A g) H0 H1 locs1 → W p l e R s m args below meth c H1 locs1 0 0 Q (F0 m (pc + 3) ls (.int ro :: rest))) : W p l e R s m args below meth c H locs 0 0 Q (F0 m pc ls (.int a1 :: .ref (tl_ad g 34) :: rest)) :=
  tl_goi (tl_callV C hts hP (okX4_nextBy l g C.2.2.2.2.2.2.2 σ a1 ro h) rfl rfl rfl (n := 1) (by decide +kernel) rfl (ci := 4) rfl (tl_kM g σ) hG hR hls rfl hrm hdg) hS kk
abbrev rX4_next : Room := { frames := 3, cells := 0, slots := 0, locals := 66 }
set_option maxHeartbeats 4000000 in
set_option maxRecDepth 100000 in
theorem okX4_next (l : Launch) (g : tl_G) (hI : tl_I g) (σ : tl_St) (a1 : Int32) (ro : Int32) (h : fX4_next σ a1 = some ro) : Met l yX4_next wsX4_next rX4_next (va_Pc [.ref (tl_ad g 34), .int a1] (tl_Pre g σ)) (tl_Qi g ro σ) 0 0 (tl_A g) := by
  refine tl_enter (cc := cX4_next) (maxL := 2) (ret := (some .int)) (own := RX4) hI (by decide) rfl rfl (Nat.le_of_ble_eq_true rfl) ?_
  intro p e s m below meth c C hts H locs hP hS ls hl
  have hx := C.1
  have hb := C.2.1
  have hl : lv_has ls 2 [(0, .ref (tl_ad g 34)), (1, .int a1)] := hl
  unfold fX4_next at h
  refine lv_iload_n (pc := 0) hx hb dX4_next_0 rfl (lv_at hl 1 rfl) ?_
  obtain ⟨r1, er1, h⟩ := tl_nm h
  refine caX4_isTwo (pc := 1) C hts hP hS er1 gX4_next_X4_isTwo ⟨Nat.le_of_ble_eq_true rfl, Nat.le_of_ble_eq_true rfl⟩ hl.1 (Nat.le_of_ble_eq_true rfl) dX4_next_1 (fun H locs hP hS => ?_)
  refine lv_if_eq (pc := 4) (tgt := 15) hx hb dX4_next_4 (by decide) (fun c2 => ?_) (fun c2 => ?_)
  · replace h := (if_pos c2).symm.trans h
    refine lv_bipush (pc := 15) (v := (-2)) hx hb dX4_next_15 (by decide) ?_
    exact tl_Ripr (pc := 17) C h hP hS dX4_next_17
  · replace h := (if_neg c2).symm.trans h
    refine lv_aload_n (pc := 7) hx hb dX4_next_7 rfl (lv_at hl 0 rfl) ?_
    refine lv_iload_n (pc := 8) hx hb dX4_next_8 rfl (lv_at hl 1 rfl) ?_
    obtain ⟨r3, er3, h⟩ := tl_o1s h
    refine caX4_nextBy (pc := 9) C hts hP hS er3 gX4_next_X4_nextBy ⟨Nat.le_of_ble_eq_true rfl, Nat.le_of_ble_eq_true rfl⟩ hl.1 (Nat.le_of_ble_eq_true rfl) dX4_next_9 (fun H locs hP hS => ?_)
    refine lv_goto (pc := 12) (tgt := 17) hx hb dX4_next_12 (by decide) ?_
    exact tl_Ripr (pc := 17) C h hP hS dX4_next_17
theorem caX4_next {p : Program} {l : Launch} {e : Env} {R : Room} {s : State} {m : MethodId} {args : Array Value} {below : List Frame} {meth : Method} {c : Code} {H : Heap} {locs : List Loc} {Q : State → Prop} {cc : ByteArray} {pc : Nat} {ls : Array Slot} {rest : List Value} {g : tl_G} {σ : tl_St} {H0 : Heap} {nL : Nat} {own : String} {ret : Option FieldType} {index : Nat} (C : tl_C p s m meth c cc nL own ret g) {Ts : List Cond} (hts : ∀ w ∈ Ts, w.before args s = true) (hP : va_P g.1 vwCl (tl_W g σ) H) (hS : va_S (tl_A g) H0 H locs) {a1 : Int32} {ro : Int32} (h : fX4_next σ a1 = some ro) (hG : GoodIn Ts (wsV own index RX4 yX4_next wsX4_next)) (hR : 3 + 1 ≤ R.frames ∧ 8 + (2 + 11) + 66 ≤ R.locals) (hls : ls.size = nL) (hrm : (rest.map fun v => v.category).sum ≤ 8) (hdg : decode cc pc = .ok (.invokevirtual index, 3)) (kk : ∀ (H1 : Heap) (locs1 : List Loc), va_P g.1 vwCl (tl_W g σ) H1 → va_S (tl_A g) H0 H1 locs1 → W p l e R s m args below meth c H1 locs1 0 0 Q (F0 m (pc + 3) ls (.int ro :: rest))) : W p l e R s m args below meth c H locs 0 0 Q (F0 m pc ls (.int a1 :: .ref (tl_ad g 34) :: rest)) :=
  tl_goi (tl_callV C hts hP (okX4_next l g C.2.2.2.2.2.2.2 σ a1 ro h) rfl rfl rfl (n := 1) (by decide +kernel) rfl (ci := 4) rfl (tl_kM g σ) hG hR hls rfl hrm hdg) hS kk
abbrev rX4_goesTo : Room := { frames := 1, cells := 0, slots := 0, locals := 22 }
set_option maxHeartbeats 4000000 in
set_option maxRecDepth 100000 in
theorem okX4_goesTo (l : Launch) (g : tl_G) (hI : tl_I g) (σ : tl_St) (a1 : Int32) (ro : Int32) (h : fX4_goesTo σ a1 = some ro) : Met l yX4_goesTo wsX4_goesTo rX4_goesTo (va_Pc [.ref (tl_ad g 34), .int a1] (tl_Pre g σ)) (tl_Qi g ro σ) 0 0 (tl_A g) := by
  refine tl_enter (cc := cX4_goesTo) (maxL := 7) (ret := (some .int)) (own := RX4) hI (by decide) rfl rfl (Nat.le_of_ble_eq_true rfl) ?_
  intro p e s m below meth c C hts H locs hP hS ls hl
  have hx := C.1
  have hb := C.2.1
  have hl : lv_has ls 7 [(0, .ref (tl_ad g 34)), (1, .int a1)] := hl
  have hc4 : ∀ w ∈ u_ws RX4 TX4 30, w.before [.ref (tl_ad g 34), .int a1].toArray s = true := fun w hw => hts w (List.mem_cons_of_mem _ (List.mem_append_right _ hw))
  have lk0 : (Cond.fieldLink RX4 96 "ThriftLockModel" "basins" "I").before [.ref (tl_ad g 34), .int a1].toArray s = true := hts _ (List.mem_cons_of_mem _ (List.mem_append_left _ (List.mem_of_getElem? (i := 0) rfl)))
  have lk1 : (Cond.fieldLink RX4 34 "ThriftLockModel" "held" "[I").before [.ref (tl_ad g 34), .int a1].toArray s = true := hts _ (List.mem_cons_of_mem _ (List.mem_append_left _ (List.mem_of_getElem? (i := 1) rfl)))
  have lk2 : (Cond.fieldLink RX4 99 "ThriftLockModel" "out" "I").before [.ref (tl_ad g 34), .int a1].toArray s = true := hts _ (List.mem_cons_of_mem _ (List.mem_append_left _ (List.mem_of_getElem? (i := 2) rfl)))
  have lk3 : (Cond.fieldLink RX4 25 "ThriftLockModel" "room" "[I").before [.ref (tl_ad g 34), .int a1].toArray s = true := hts _ (List.mem_cons_of_mem _ (List.mem_append_left _ (List.mem_of_getElem? (i := 3) rfl)))
  unfold fX4_goesTo at h
  refine lv_iconst (pc := 0) (v := (-1)) hx hb dX4_goesTo_0 (by decide) ?_
  refine lv_istore_n (pc := 1) (lv' := [(2, .int (-1)), (0, .ref (tl_ad g 34)), (1, .int a1)]) hx hb dX4_goesTo_1 rfl hl (by decide) rfl (fun ls hl => ?_)
  refine lv_iconst (pc := 2) (v := (-1)) hx hb dX4_goesTo_2 (by decide) ?_
  refine lv_istore_n (pc := 3) (lv' := [(3, .int (-1)), (2, .int (-1)), (0, .ref (tl_ad g 34)), (1, .int a1)]) hx hb dX4_goesTo_3 rfl hl (by decide) rfl (fun ls hl => ?_)
  refine lv_iconst (pc := 4) (v := 0) hx hb dX4_goesTo_4 (by decide) ?_
  refine lv_istore (pc := 5) (lv' := [(4, .int 0), (3, .int (-1)), (2, .int (-1)), (0, .ref (tl_ad g 34)), (1, .int a1)]) hx hb dX4_goesTo_5 hl (by decide) rfl (fun ls hl => ?_)
  obtain ⟨k2, ek2, h⟩ := tl_j1 h
  have hZ2 : ∀ (x1 : Int32) (H : Heap) (locs : List Loc) (ls : Array Slot), k2 x1 = some ro → va_P g.1 vwCl (tl_W g σ) H → va_S (tl_A g) s.heap H locs → lv_has ls 7 [(2, .int x1)] → W p l e rX4_goesTo s m [.ref (tl_ad g 34), .int a1].toArray below meth c H locs 0 0 (MQ below (tl_Qi g ro σ) [.ref (tl_ad g 34), .int a1].toArray s 0 0 (tl_A g)) (F0 m 118 ls []) := by
    intro x1 H locs ls h hP hS hl
    replace h := (ek2 x1).trans h
    refine lv_iload_n (pc := 118) hx hb dX4_goesTo_118 rfl (lv_at hl 0 rfl) ?_
    exact tl_Ripr (pc := 119) C h hP hS dX4_goesTo_119
  have hL7 : ∀ (n : Nat) (x3 : Int32) (x4 : Int32) (x5 : Int32) (H : Heap) (locs : List Loc) (ls : Array Slot), fX4_goesTo_L7 σ a1 k2 n x3 x4 x5 = some ro → va_P g.1 vwCl (tl_W g σ) H → va_S (tl_A g) s.heap H locs → lv_has ls 7 [(0, .ref (tl_ad g 34)), (1, .int a1), (2, .int x3), (3, .int x4), (4, .int x5)] → W p l e rX4_goesTo s m [.ref (tl_ad g 34), .int a1].toArray below meth c H locs 0 0 (MQ below (tl_Qi g ro σ) [.ref (tl_ad g 34), .int a1].toArray s 0 0 (tl_A g)) (F0 m 7 ls []) := by
    intro n
    induction n with
    | zero =>
      intro x3 x4 x5 H locs ls h hP hS hl
      rw [fX4_goesTo_L7] at h
      cases h
    | succ n ih =>
      intro x3 x4 x5 H locs ls h hP hS hl
      rw [fX4_goesTo_L7] at h
      refine lv_iload (pc := 7) hx hb dX4_goesTo_7 (lv_at hl 4 rfl) ?_
      refine lv_aload_n (pc := 9) hx hb dX4_goesTo_9 rfl (lv_at hl 0 rfl) ?_
      refine tl_gM_7 (pc := 10) C hc4 hP lk0 dX4_goesTo_10 ?_
      refine lv_icmp_ge (pc := 13) (tgt := 118) hx hb dX4_goesTo_13 (by decide) (fun c6 => ?_) (fun c6 => ?_)
      · replace h := (if_pos c6).symm.trans h
        exact hZ2 x3 _ _ _ h hP hS (lv_sub hl [2] rfl)
      · replace h := (if_neg c6).symm.trans h
        refine lv_aload_n (pc := 16) hx hb dX4_goesTo_16 rfl (lv_at hl 0 rfl) ?_
        refine lv_iload (pc := 17) hx hb dX4_goesTo_17 (lv_at hl 4 rfl) ?_
        refine lv_aload_n (pc := 19) hx hb dX4_goesTo_19 rfl (lv_at hl 0 rfl) ?_
        refine tl_gM_12 (pc := 20) C hc4 hP lk1 dX4_goesTo_20 ?_
        refine lv_iload (pc := 23) hx hb dX4_goesTo_23 (lv_at hl 4 rfl) ?_
        obtain ⟨g7, h⟩ := tl_gd h
        refine tl_ald (pc := 25) C hP (tl_a43 g) g7 dX4_goesTo_25 ?_
        refine lv_iconst (pc := 26) (v := 1) hx hb dX4_goesTo_26 (by decide) ?_
        refine lv_iadd (pc := 27) hx hb dX4_goesTo_27 ?_
        obtain ⟨r8, er8, h⟩ := tl_o1s h
        refine caX4_levelOf (pc := 28) C hts hP hS er8 gX4_goesTo_X4_levelOf ⟨Nat.le_of_ble_eq_true rfl, Nat.le_of_ble_eq_true rfl⟩ hl.1 (Nat.le_of_ble_eq_true rfl) dX4_goesTo_28 (fun H locs hP hS => ?_)
        refine lv_istore (pc := 31) (lv' := [(5, .int r8), (0, .ref (tl_ad g 34)), (1, .int a1), (2, .int x3), (3, .int x4), (4, .int x5)]) hx hb dX4_goesTo_31 hl (by decide) rfl (fun ls hl => ?_)
        refine lv_aload_n (pc := 33) hx hb dX4_goesTo_33 rfl (lv_at hl 1 rfl) ?_
        refine tl_gM_13 (pc := 34) C hc4 hP lk2 dX4_goesTo_34 ?_
        refine lv_iload (pc := 37) hx hb dX4_goesTo_37 (lv_at hl 5 rfl) ?_
        obtain ⟨r9, er9, h⟩ := tl_nm h
        refine caX4_isIn (pc := 39) C hts hP hS er9 gX4_goesTo_X4_isIn ⟨Nat.le_of_ble_eq_true rfl, Nat.le_of_ble_eq_true rfl⟩ hl.1 (Nat.le_of_ble_eq_true rfl) dX4_goesTo_39 (fun H locs hP hS => ?_)
        obtain ⟨k11, ek11, h⟩ := tl_j1 h
        have hJ11 : ∀ (x10 : Int32) (H : Heap) (locs : List Loc) (ls : Array Slot), k11 x10 = some ro → va_P g.1 vwCl (tl_W g σ) H → va_S (tl_A g) s.heap H locs → lv_has ls 7 [(0, .ref (tl_ad g 34)), (1, .int a1), (2, .int x3), (3, .int x4), (4, .int x5), (5, .int r8)] → W p l e rX4_goesTo s m [.ref (tl_ad g 34), .int a1].toArray below meth c H locs 0 0 (MQ below (tl_Qi g ro σ) [.ref (tl_ad g 34), .int a1].toArray s 0 0 (tl_A g)) (F0 m 76 ls [.int x10]) := by
          intro x10 H locs ls h hP hS hl
          replace h := (ek11 x10).trans h
          refine lv_istore (pc := 76) (lv' := [(6, .int x10), (0, .ref (tl_ad g 34)), (1, .int a1), (2, .int x3), (3, .int x4), (4, .int x5), (5, .int r8)]) hx hb dX4_goesTo_76 hl (by decide) rfl (fun ls hl => ?_)
          refine lv_iload (pc := 78) hx hb dX4_goesTo_78 (lv_at hl 0 rfl) ?_
          obtain ⟨k13, ek13, h⟩ := tl_j1 h
          have hJ13 : ∀ (x12 : Int32) (H : Heap) (locs : List Loc) (ls : Array Slot), k13 x12 = some ro → va_P g.1 vwCl (tl_W g σ) H → va_S (tl_A g) s.heap H locs → lv_has ls 7 [(0, .ref (tl_ad g 34)), (1, .int a1), (3, .int x4), (4, .int x5), (5, .int r8), (6, .int x10)] → W p l e rX4_goesTo s m [.ref (tl_ad g 34), .int a1].toArray below meth c H locs 0 0 (MQ below (tl_Qi g ro σ) [.ref (tl_ad g 34), .int a1].toArray s 0 0 (tl_A g)) (F0 m 95 ls [.int x12]) := by
            intro x12 H locs ls h hP hS hl
            replace h := (ek13 x12).trans h
            refine lv_istore_n (pc := 95) (lv' := [(2, .int x12), (0, .ref (tl_ad g 34)), (1, .int a1), (3, .int x4), (4, .int x5), (5, .int r8), (6, .int x10)]) hx hb dX4_goesTo_95 rfl hl (by decide) rfl (fun ls hl => ?_)
            refine lv_iload (pc := 96) hx hb dX4_goesTo_96 (lv_at hl 6 rfl) ?_
            obtain ⟨k15, ek15, h⟩ := tl_j1 h
            have hJ15 : ∀ (x14 : Int32) (H : Heap) (locs : List Loc) (ls : Array Slot), k15 x14 = some ro → va_P g.1 vwCl (tl_W g σ) H → va_S (tl_A g) s.heap H locs → lv_has ls 7 [(0, .ref (tl_ad g 34)), (1, .int a1), (2, .int x12), (4, .int x5)] → W p l e rX4_goesTo s m [.ref (tl_ad g 34), .int a1].toArray below meth c H locs 0 0 (MQ below (tl_Qi g ro σ) [.ref (tl_ad g 34), .int a1].toArray s 0 0 (tl_A g)) (F0 m 111 ls [.int x14]) := by
              intro x14 H locs ls h hP hS hl
              replace h := (ek15 x14).trans h
              refine lv_istore_n (pc := 111) (lv' := [(3, .int x14), (0, .ref (tl_ad g 34)), (1, .int a1), (2, .int x12), (4, .int x5)]) hx hb dX4_goesTo_111 rfl hl (by decide) rfl (fun ls hl => ?_)
              obtain ⟨x16, ex16, h⟩ := tl_nm h
              refine lv_iinc (pc := 112) (v := x16) (lv' := [(4, .int x16), (3, .int x14), (0, .ref (tl_ad g 34)), (1, .int a1), (2, .int x12)]) hx hb dX4_goesTo_112 hl (k := 4) rfl ex16 (by decide) rfl (fun ls hl => ?_)
              refine lv_goto (pc := 115) (tgt := 7) hx hb dX4_goesTo_115 (by decide) ?_
              exact ih x12 x14 x16 _ _ _ h hP hS (lv_sub hl [2, 3, 4, 1, 0] rfl)
            refine lv_if_eq (pc := 98) (tgt := 110) hx hb dX4_goesTo_98 (by decide) (fun c17 => ?_) (fun c17 => ?_)
            · replace h := (if_pos c17).symm.trans h
              refine lv_iload_n (pc := 110) hx hb dX4_goesTo_110 rfl (lv_at hl 3 rfl) ?_
              exact hJ15 x4 _ _ _ h hP hS (lv_sub hl [1, 2, 0, 4] rfl)
            · replace h := (if_neg c17).symm.trans h
              refine lv_iload (pc := 101) hx hb dX4_goesTo_101 (lv_at hl 5 rfl) ?_
              refine lv_iload_n (pc := 103) hx hb dX4_goesTo_103 rfl (lv_at hl 3 rfl) ?_
              obtain ⟨r18, er18, h⟩ := tl_nm h
              refine caX4_greater (pc := 104) C hts hP hS er18 gX4_goesTo_X4_greater ⟨Nat.le_of_ble_eq_true rfl, Nat.le_of_ble_eq_true rfl⟩ hl.1 (Nat.le_of_ble_eq_true rfl) dX4_goesTo_104 (fun H locs hP hS => ?_)
              refine lv_goto (pc := 107) (tgt := 111) hx hb dX4_goesTo_107 (by decide) ?_
              exact hJ15 r18 _ _ _ h hP hS (lv_sub hl [1, 2, 0, 4] rfl)
          obtain ⟨k19, ek19, h⟩ := tl_j0 h
          have hJ19 : ∀ (H : Heap) (locs : List Loc) (ls : Array Slot), k19 = some ro → va_P g.1 vwCl (tl_W g σ) H → va_S (tl_A g) s.heap H locs → lv_has ls 7 [(0, .ref (tl_ad g 34)), (1, .int a1), (2, .int x3), (3, .int x4), (4, .int x5), (5, .int r8), (6, .int x10)] → W p l e rX4_goesTo s m [.ref (tl_ad g 34), .int a1].toArray below meth c H locs 0 0 (MQ below (tl_Qi g ro σ) [.ref (tl_ad g 34), .int a1].toArray s 0 0 (tl_A g)) (F0 m 94 ls []) := by
            intro H locs ls h hP hS hl
            replace h := ek19.trans h
            refine lv_iload_n (pc := 94) hx hb dX4_goesTo_94 rfl (lv_at hl 2 rfl) ?_
            exact hJ13 x3 _ _ _ h hP hS (lv_sub hl [0, 1, 3, 4, 5, 6] rfl)
          refine lv_if_eq (pc := 80) (tgt := 94) hx hb dX4_goesTo_80 (by decide) (fun c20 => ?_) (fun c20 => ?_)
          · replace h := (if_pos c20).symm.trans h
            exact hJ19 _ _ _ h hP hS (lv_sub hl [1, 2, 3, 4, 5, 6, 0] rfl)
          · replace h := (if_neg c20).symm.trans h
            refine lv_iload (pc := 83) hx hb dX4_goesTo_83 (lv_at hl 6 rfl) ?_
            refine lv_iload_n (pc := 85) hx hb dX4_goesTo_85 rfl (lv_at hl 4 rfl) ?_
            refine lv_icmp_le (pc := 86) (tgt := 94) hx hb dX4_goesTo_86 (by decide) (fun c21 => ?_) (fun c21 => ?_)
            · replace h := (if_pos c21).symm.trans h
              exact hJ19 _ _ _ h hP hS (lv_sub hl [1, 2, 3, 4, 5, 6, 0] rfl)
            · replace h := (if_neg c21).symm.trans h
              refine lv_iload (pc := 89) hx hb dX4_goesTo_89 (lv_at hl 5 rfl) ?_
              refine lv_goto (pc := 91) (tgt := 95) hx hb dX4_goesTo_91 (by decide) ?_
              exact hJ13 x5 _ _ _ h hP hS (lv_sub hl [1, 2, 4, 5, 6, 0] rfl)
        obtain ⟨k22, ek22, h⟩ := tl_j0 h
        have hJ22 : ∀ (H : Heap) (locs : List Loc) (ls : Array Slot), k22 = some ro → va_P g.1 vwCl (tl_W g σ) H → va_S (tl_A g) s.heap H locs → lv_has ls 7 [(0, .ref (tl_ad g 34)), (1, .int a1), (2, .int x3), (3, .int x4), (4, .int x5), (5, .int r8)] → W p l e rX4_goesTo s m [.ref (tl_ad g 34), .int a1].toArray below meth c H locs 0 0 (MQ below (tl_Qi g ro σ) [.ref (tl_ad g 34), .int a1].toArray s 0 0 (tl_A g)) (F0 m 75 ls []) := by
          intro H locs ls h hP hS hl
          replace h := ek22.trans h
          refine lv_iconst (pc := 75) (v := 0) hx hb dX4_goesTo_75 (by decide) ?_
          exact hJ11 0 _ _ _ h hP hS (lv_sub hl [0, 1, 2, 3, 4, 5] rfl)
        refine lv_if_ne (pc := 42) (tgt := 75) hx hb dX4_goesTo_42 (by decide) (fun c23 => ?_) (fun c23 => ?_)
        · replace h := (if_neg c23).symm.trans h
          exact hJ22 _ _ _ h hP hS (lv_sub hl [1, 2, 3, 4, 5, 0] rfl)
        · replace h := (if_pos c23).symm.trans h
          refine lv_aload_n (pc := 45) hx hb dX4_goesTo_45 rfl (lv_at hl 1 rfl) ?_
          refine tl_gM_12 (pc := 46) C hc4 hP lk1 dX4_goesTo_46 ?_
          refine lv_iload (pc := 49) hx hb dX4_goesTo_49 (lv_at hl 5 rfl) ?_
          obtain ⟨g24, h⟩ := tl_gd h
          refine tl_ald (pc := 51) C hP (tl_a43 g) g24 dX4_goesTo_51 ?_
          refine lv_aload_n (pc := 52) hx hb dX4_goesTo_52 rfl (lv_at hl 1 rfl) ?_
          refine tl_gM_9 (pc := 53) C hc4 hP lk3 dX4_goesTo_53 ?_
          refine lv_iload (pc := 56) hx hb dX4_goesTo_56 (lv_at hl 5 rfl) ?_
          obtain ⟨g25, h⟩ := tl_gd h
          refine tl_ald (pc := 58) C hP (tl_a40 g) g25 dX4_goesTo_58 ?_
          refine lv_icmp_ge (pc := 59) (tgt := 75) hx hb dX4_goesTo_59 (by decide) (fun c26 => ?_) (fun c26 => ?_)
          · replace h := (if_pos c26).symm.trans h
            exact hJ22 _ _ _ h hP hS (lv_sub hl [1, 2, 3, 4, 5, 0] rfl)
          · replace h := (if_neg c26).symm.trans h
            refine lv_iload (pc := 62) hx hb dX4_goesTo_62 (lv_at hl 0 rfl) ?_
            refine lv_bipush (pc := 64) (v := 6) hx hb dX4_goesTo_64 (by decide) ?_
            refine lv_iload_n (pc := 66) hx hb dX4_goesTo_66 rfl (lv_at hl 2 rfl) ?_
            refine lv_imul (pc := 67) hx hb dX4_goesTo_67 ?_
            refine lv_icmp_gt (pc := 68) (tgt := 75) hx hb dX4_goesTo_68 (by decide) (fun c27 => ?_) (fun c27 => ?_)
            · replace h := (if_pos c27).symm.trans h
              exact hJ22 _ _ _ h hP hS (lv_sub hl [1, 2, 3, 4, 5, 0] rfl)
            · replace h := (if_neg c27).symm.trans h
              refine lv_iconst (pc := 71) (v := 1) hx hb dX4_goesTo_71 (by decide) ?_
              refine lv_goto (pc := 72) (tgt := 76) hx hb dX4_goesTo_72 (by decide) ?_
              exact hJ11 1 _ _ _ h hP hS (lv_sub hl [1, 2, 3, 4, 5, 0] rfl)
  exact hL7 1000 (-1) (-1) 0 _ _ _ h hP hS (lv_sub hl [3, 4, 2, 1, 0] rfl)
theorem caX4_goesTo {p : Program} {l : Launch} {e : Env} {R : Room} {s : State} {m : MethodId} {args : Array Value} {below : List Frame} {meth : Method} {c : Code} {H : Heap} {locs : List Loc} {Q : State → Prop} {cc : ByteArray} {pc : Nat} {ls : Array Slot} {rest : List Value} {g : tl_G} {σ : tl_St} {H0 : Heap} {nL : Nat} {own : String} {ret : Option FieldType} {index : Nat} (C : tl_C p s m meth c cc nL own ret g) {Ts : List Cond} (hts : ∀ w ∈ Ts, w.before args s = true) (hP : va_P g.1 vwCl (tl_W g σ) H) (hS : va_S (tl_A g) H0 H locs) {a1 : Int32} {ro : Int32} (h : fX4_goesTo σ a1 = some ro) (hG : GoodIn Ts (wsV own index RX4 yX4_goesTo wsX4_goesTo)) (hR : 1 + 1 ≤ R.frames ∧ 8 + (7 + 11) + 22 ≤ R.locals) (hls : ls.size = nL) (hrm : (rest.map fun v => v.category).sum ≤ 8) (hdg : decode cc pc = .ok (.invokevirtual index, 3)) (kk : ∀ (H1 : Heap) (locs1 : List Loc), va_P g.1 vwCl (tl_W g σ) H1 → va_S (tl_A g) H0 H1 locs1 → W p l e R s m args below meth c H1 locs1 0 0 Q (F0 m (pc + 3) ls (.int ro :: rest))) : W p l e R s m args below meth c H locs 0 0 Q (F0 m pc ls (.int a1 :: .ref (tl_ad g 34) :: rest)) :=
  tl_goi (tl_callV C hts hP (okX4_goesTo l g C.2.2.2.2.2.2.2 σ a1 ro h) rfl rfl rfl (n := 1) (by decide +kernel) rfl (ci := 4) rfl (tl_kM g σ) hG hR hls rfl hrm hdg) hS kk
abbrev rX4_comesFrom : Room := { frames := 1, cells := 0, slots := 0, locals := 22 }
set_option maxHeartbeats 4000000 in
set_option maxRecDepth 100000 in
theorem okX4_comesFrom (l : Launch) (g : tl_G) (hI : tl_I g) (σ : tl_St) (a1 : Int32) (ro : Int32) (h : fX4_comesFrom σ a1 = some ro) : Met l yX4_comesFrom wsX4_comesFrom rX4_comesFrom (va_Pc [.ref (tl_ad g 34), .int a1] (tl_Pre g σ)) (tl_Qi g ro σ) 0 0 (tl_A g) := by
  refine tl_enter (cc := cX4_comesFrom) (maxL := 7) (ret := (some .int)) (own := RX4) hI (by decide) rfl rfl (Nat.le_of_ble_eq_true rfl) ?_
  intro p e s m below meth c C hts H locs hP hS ls hl
  have hx := C.1
  have hb := C.2.1
  have hl : lv_has ls 7 [(0, .ref (tl_ad g 34)), (1, .int a1)] := hl
  have hc4 : ∀ w ∈ u_ws RX4 TX4 30, w.before [.ref (tl_ad g 34), .int a1].toArray s = true := fun w hw => hts w (List.mem_cons_of_mem _ (List.mem_append_right _ hw))
  have lk0 : (Cond.constant RX4 155 (999999)).before [.ref (tl_ad g 34), .int a1].toArray s = true := hts _ (List.mem_cons_of_mem _ (List.mem_append_left _ (List.mem_of_getElem? (i := 0) rfl)))
  have lk1 : (Cond.fieldLink RX4 96 "ThriftLockModel" "basins" "I").before [.ref (tl_ad g 34), .int a1].toArray s = true := hts _ (List.mem_cons_of_mem _ (List.mem_append_left _ (List.mem_of_getElem? (i := 1) rfl)))
  have lk2 : (Cond.fieldLink RX4 34 "ThriftLockModel" "held" "[I").before [.ref (tl_ad g 34), .int a1].toArray s = true := hts _ (List.mem_cons_of_mem _ (List.mem_append_left _ (List.mem_of_getElem? (i := 2) rfl)))
  have lk3 : (Cond.fieldLink RX4 99 "ThriftLockModel" "out" "I").before [.ref (tl_ad g 34), .int a1].toArray s = true := hts _ (List.mem_cons_of_mem _ (List.mem_append_left _ (List.mem_of_getElem? (i := 3) rfl)))
  unfold fX4_comesFrom at h
  refine lv_iconst (pc := 0) (v := (-1)) hx hb dX4_comesFrom_0 (by decide) ?_
  refine lv_istore_n (pc := 1) (lv' := [(2, .int (-1)), (0, .ref (tl_ad g 34)), (1, .int a1)]) hx hb dX4_comesFrom_1 rfl hl (by decide) rfl (fun ls hl => ?_)
  refine lv_ldc (pc := 2) (v := 999999) hx hb C.2.2.2.1 lk0 dX4_comesFrom_2 ?_
  refine lv_istore_n (pc := 4) (lv' := [(3, .int 999999), (2, .int (-1)), (0, .ref (tl_ad g 34)), (1, .int a1)]) hx hb dX4_comesFrom_4 rfl hl (by decide) rfl (fun ls hl => ?_)
  refine lv_iconst (pc := 5) (v := 0) hx hb dX4_comesFrom_5 (by decide) ?_
  refine lv_istore (pc := 6) (lv' := [(4, .int 0), (3, .int 999999), (2, .int (-1)), (0, .ref (tl_ad g 34)), (1, .int a1)]) hx hb dX4_comesFrom_6 hl (by decide) rfl (fun ls hl => ?_)
  obtain ⟨k2, ek2, h⟩ := tl_j1 h
  have hZ2 : ∀ (x1 : Int32) (H : Heap) (locs : List Loc) (ls : Array Slot), k2 x1 = some ro → va_P g.1 vwCl (tl_W g σ) H → va_S (tl_A g) s.heap H locs → lv_has ls 7 [(2, .int x1)] → W p l e rX4_comesFrom s m [.ref (tl_ad g 34), .int a1].toArray below meth c H locs 0 0 (MQ below (tl_Qi g ro σ) [.ref (tl_ad g 34), .int a1].toArray s 0 0 (tl_A g)) (F0 m 112 ls []) := by
    intro x1 H locs ls h hP hS hl
    replace h := (ek2 x1).trans h
    refine lv_iload_n (pc := 112) hx hb dX4_comesFrom_112 rfl (lv_at hl 0 rfl) ?_
    exact tl_Ripr (pc := 113) C h hP hS dX4_comesFrom_113
  have hL8 : ∀ (n : Nat) (x3 : Int32) (x4 : Int32) (x5 : Int32) (H : Heap) (locs : List Loc) (ls : Array Slot), fX4_comesFrom_L8 σ a1 k2 n x3 x4 x5 = some ro → va_P g.1 vwCl (tl_W g σ) H → va_S (tl_A g) s.heap H locs → lv_has ls 7 [(0, .ref (tl_ad g 34)), (1, .int a1), (2, .int x3), (3, .int x4), (4, .int x5)] → W p l e rX4_comesFrom s m [.ref (tl_ad g 34), .int a1].toArray below meth c H locs 0 0 (MQ below (tl_Qi g ro σ) [.ref (tl_ad g 34), .int a1].toArray s 0 0 (tl_A g)) (F0 m 8 ls []) := by
    intro n
    induction n with
    | zero =>
      intro x3 x4 x5 H locs ls h hP hS hl
      rw [fX4_comesFrom_L8] at h
      cases h
    | succ n ih =>
      intro x3 x4 x5 H locs ls h hP hS hl
      rw [fX4_comesFrom_L8] at h
      refine lv_iload (pc := 8) hx hb dX4_comesFrom_8 (lv_at hl 4 rfl) ?_
      refine lv_aload_n (pc := 10) hx hb dX4_comesFrom_10 rfl (lv_at hl 0 rfl) ?_
      refine tl_gM_7 (pc := 11) C hc4 hP lk1 dX4_comesFrom_11 ?_
      refine lv_icmp_ge (pc := 14) (tgt := 112) hx hb dX4_comesFrom_14 (by decide) (fun c6 => ?_) (fun c6 => ?_)
      · replace h := (if_pos c6).symm.trans h
        exact hZ2 x3 _ _ _ h hP hS (lv_sub hl [2] rfl)
      · replace h := (if_neg c6).symm.trans h
        refine lv_aload_n (pc := 17) hx hb dX4_comesFrom_17 rfl (lv_at hl 0 rfl) ?_
        refine lv_iload (pc := 18) hx hb dX4_comesFrom_18 (lv_at hl 4 rfl) ?_
        refine lv_aload_n (pc := 20) hx hb dX4_comesFrom_20 rfl (lv_at hl 0 rfl) ?_
        refine tl_gM_12 (pc := 21) C hc4 hP lk2 dX4_comesFrom_21 ?_
        refine lv_iload (pc := 24) hx hb dX4_comesFrom_24 (lv_at hl 4 rfl) ?_
        obtain ⟨g7, h⟩ := tl_gd h
        refine tl_ald (pc := 26) C hP (tl_a43 g) g7 dX4_comesFrom_26 ?_
        refine lv_iconst (pc := 27) (v := 1) hx hb dX4_comesFrom_27 (by decide) ?_
        refine lv_isub (pc := 28) hx hb dX4_comesFrom_28 ?_
        obtain ⟨r8, er8, h⟩ := tl_o1s h
        refine caX4_levelOf (pc := 29) C hts hP hS er8 gX4_comesFrom_X4_levelOf ⟨Nat.le_of_ble_eq_true rfl, Nat.le_of_ble_eq_true rfl⟩ hl.1 (Nat.le_of_ble_eq_true rfl) dX4_comesFrom_29 (fun H locs hP hS => ?_)
        refine lv_istore (pc := 32) (lv' := [(5, .int r8), (0, .ref (tl_ad g 34)), (1, .int a1), (2, .int x3), (3, .int x4), (4, .int x5)]) hx hb dX4_comesFrom_32 hl (by decide) rfl (fun ls hl => ?_)
        refine lv_aload_n (pc := 34) hx hb dX4_comesFrom_34 rfl (lv_at hl 1 rfl) ?_
        refine tl_gM_13 (pc := 35) C hc4 hP lk3 dX4_comesFrom_35 ?_
        refine lv_iload (pc := 38) hx hb dX4_comesFrom_38 (lv_at hl 5 rfl) ?_
        obtain ⟨r9, er9, h⟩ := tl_nm h
        refine caX4_isIn (pc := 40) C hts hP hS er9 gX4_comesFrom_X4_isIn ⟨Nat.le_of_ble_eq_true rfl, Nat.le_of_ble_eq_true rfl⟩ hl.1 (Nat.le_of_ble_eq_true rfl) dX4_comesFrom_40 (fun H locs hP hS => ?_)
        obtain ⟨k11, ek11, h⟩ := tl_j1 h
        have hJ11 : ∀ (x10 : Int32) (H : Heap) (locs : List Loc) (ls : Array Slot), k11 x10 = some ro → va_P g.1 vwCl (tl_W g σ) H → va_S (tl_A g) s.heap H locs → lv_has ls 7 [(0, .ref (tl_ad g 34)), (1, .int a1), (2, .int x3), (3, .int x4), (4, .int x5), (5, .int r8)] → W p l e rX4_comesFrom s m [.ref (tl_ad g 34), .int a1].toArray below meth c H locs 0 0 (MQ below (tl_Qi g ro σ) [.ref (tl_ad g 34), .int a1].toArray s 0 0 (tl_A g)) (F0 m 70 ls [.int x10]) := by
          intro x10 H locs ls h hP hS hl
          replace h := (ek11 x10).trans h
          refine lv_istore (pc := 70) (lv' := [(6, .int x10), (0, .ref (tl_ad g 34)), (1, .int a1), (2, .int x3), (3, .int x4), (4, .int x5), (5, .int r8)]) hx hb dX4_comesFrom_70 hl (by decide) rfl (fun ls hl => ?_)
          refine lv_iload (pc := 72) hx hb dX4_comesFrom_72 (lv_at hl 0 rfl) ?_
          obtain ⟨k13, ek13, h⟩ := tl_j1 h
          have hJ13 : ∀ (x12 : Int32) (H : Heap) (locs : List Loc) (ls : Array Slot), k13 x12 = some ro → va_P g.1 vwCl (tl_W g σ) H → va_S (tl_A g) s.heap H locs → lv_has ls 7 [(0, .ref (tl_ad g 34)), (1, .int a1), (3, .int x4), (4, .int x5), (5, .int r8), (6, .int x10)] → W p l e rX4_comesFrom s m [.ref (tl_ad g 34), .int a1].toArray below meth c H locs 0 0 (MQ below (tl_Qi g ro σ) [.ref (tl_ad g 34), .int a1].toArray s 0 0 (tl_A g)) (F0 m 89 ls [.int x12]) := by
            intro x12 H locs ls h hP hS hl
            replace h := (ek13 x12).trans h
            refine lv_istore_n (pc := 89) (lv' := [(2, .int x12), (0, .ref (tl_ad g 34)), (1, .int a1), (3, .int x4), (4, .int x5), (5, .int r8), (6, .int x10)]) hx hb dX4_comesFrom_89 rfl hl (by decide) rfl (fun ls hl => ?_)
            refine lv_iload (pc := 90) hx hb dX4_comesFrom_90 (lv_at hl 6 rfl) ?_
            obtain ⟨k15, ek15, h⟩ := tl_j1 h
            have hJ15 : ∀ (x14 : Int32) (H : Heap) (locs : List Loc) (ls : Array Slot), k15 x14 = some ro → va_P g.1 vwCl (tl_W g σ) H → va_S (tl_A g) s.heap H locs → lv_has ls 7 [(0, .ref (tl_ad g 34)), (1, .int a1), (2, .int x12), (4, .int x5)] → W p l e rX4_comesFrom s m [.ref (tl_ad g 34), .int a1].toArray below meth c H locs 0 0 (MQ below (tl_Qi g ro σ) [.ref (tl_ad g 34), .int a1].toArray s 0 0 (tl_A g)) (F0 m 105 ls [.int x14]) := by
              intro x14 H locs ls h hP hS hl
              replace h := (ek15 x14).trans h
              refine lv_istore_n (pc := 105) (lv' := [(3, .int x14), (0, .ref (tl_ad g 34)), (1, .int a1), (2, .int x12), (4, .int x5)]) hx hb dX4_comesFrom_105 rfl hl (by decide) rfl (fun ls hl => ?_)
              obtain ⟨x16, ex16, h⟩ := tl_nm h
              refine lv_iinc (pc := 106) (v := x16) (lv' := [(4, .int x16), (3, .int x14), (0, .ref (tl_ad g 34)), (1, .int a1), (2, .int x12)]) hx hb dX4_comesFrom_106 hl (k := 4) rfl ex16 (by decide) rfl (fun ls hl => ?_)
              refine lv_goto (pc := 109) (tgt := 8) hx hb dX4_comesFrom_109 (by decide) ?_
              exact ih x12 x14 x16 _ _ _ h hP hS (lv_sub hl [2, 3, 4, 1, 0] rfl)
            refine lv_if_eq (pc := 92) (tgt := 104) hx hb dX4_comesFrom_92 (by decide) (fun c17 => ?_) (fun c17 => ?_)
            · replace h := (if_pos c17).symm.trans h
              refine lv_iload_n (pc := 104) hx hb dX4_comesFrom_104 rfl (lv_at hl 3 rfl) ?_
              exact hJ15 x4 _ _ _ h hP hS (lv_sub hl [1, 2, 0, 4] rfl)
            · replace h := (if_neg c17).symm.trans h
              refine lv_iload (pc := 95) hx hb dX4_comesFrom_95 (lv_at hl 5 rfl) ?_
              refine lv_iload_n (pc := 97) hx hb dX4_comesFrom_97 rfl (lv_at hl 3 rfl) ?_
              obtain ⟨r18, er18, h⟩ := tl_nm h
              refine caX4_lesser (pc := 98) C hts hP hS er18 gX4_comesFrom_X4_lesser ⟨Nat.le_of_ble_eq_true rfl, Nat.le_of_ble_eq_true rfl⟩ hl.1 (Nat.le_of_ble_eq_true rfl) dX4_comesFrom_98 (fun H locs hP hS => ?_)
              refine lv_goto (pc := 101) (tgt := 105) hx hb dX4_comesFrom_101 (by decide) ?_
              exact hJ15 r18 _ _ _ h hP hS (lv_sub hl [1, 2, 0, 4] rfl)
          obtain ⟨k19, ek19, h⟩ := tl_j0 h
          have hJ19 : ∀ (H : Heap) (locs : List Loc) (ls : Array Slot), k19 = some ro → va_P g.1 vwCl (tl_W g σ) H → va_S (tl_A g) s.heap H locs → lv_has ls 7 [(0, .ref (tl_ad g 34)), (1, .int a1), (2, .int x3), (3, .int x4), (4, .int x5), (5, .int r8), (6, .int x10)] → W p l e rX4_comesFrom s m [.ref (tl_ad g 34), .int a1].toArray below meth c H locs 0 0 (MQ below (tl_Qi g ro σ) [.ref (tl_ad g 34), .int a1].toArray s 0 0 (tl_A g)) (F0 m 88 ls []) := by
            intro H locs ls h hP hS hl
            replace h := ek19.trans h
            refine lv_iload_n (pc := 88) hx hb dX4_comesFrom_88 rfl (lv_at hl 2 rfl) ?_
            exact hJ13 x3 _ _ _ h hP hS (lv_sub hl [0, 1, 3, 4, 5, 6] rfl)
          refine lv_if_eq (pc := 74) (tgt := 88) hx hb dX4_comesFrom_74 (by decide) (fun c20 => ?_) (fun c20 => ?_)
          · replace h := (if_pos c20).symm.trans h
            exact hJ19 _ _ _ h hP hS (lv_sub hl [1, 2, 3, 4, 5, 6, 0] rfl)
          · replace h := (if_neg c20).symm.trans h
            refine lv_iload (pc := 77) hx hb dX4_comesFrom_77 (lv_at hl 6 rfl) ?_
            refine lv_iload_n (pc := 79) hx hb dX4_comesFrom_79 rfl (lv_at hl 4 rfl) ?_
            refine lv_icmp_ge (pc := 80) (tgt := 88) hx hb dX4_comesFrom_80 (by decide) (fun c21 => ?_) (fun c21 => ?_)
            · replace h := (if_pos c21).symm.trans h
              exact hJ19 _ _ _ h hP hS (lv_sub hl [1, 2, 3, 4, 5, 6, 0] rfl)
            · replace h := (if_neg c21).symm.trans h
              refine lv_iload (pc := 83) hx hb dX4_comesFrom_83 (lv_at hl 5 rfl) ?_
              refine lv_goto (pc := 85) (tgt := 89) hx hb dX4_comesFrom_85 (by decide) ?_
              exact hJ13 x5 _ _ _ h hP hS (lv_sub hl [1, 2, 4, 5, 6, 0] rfl)
        obtain ⟨k22, ek22, h⟩ := tl_j0 h
        have hJ22 : ∀ (H : Heap) (locs : List Loc) (ls : Array Slot), k22 = some ro → va_P g.1 vwCl (tl_W g σ) H → va_S (tl_A g) s.heap H locs → lv_has ls 7 [(0, .ref (tl_ad g 34)), (1, .int a1), (2, .int x3), (3, .int x4), (4, .int x5), (5, .int r8)] → W p l e rX4_comesFrom s m [.ref (tl_ad g 34), .int a1].toArray below meth c H locs 0 0 (MQ below (tl_Qi g ro σ) [.ref (tl_ad g 34), .int a1].toArray s 0 0 (tl_A g)) (F0 m 69 ls []) := by
          intro H locs ls h hP hS hl
          replace h := ek22.trans h
          refine lv_iconst (pc := 69) (v := 0) hx hb dX4_comesFrom_69 (by decide) ?_
          exact hJ11 0 _ _ _ h hP hS (lv_sub hl [0, 1, 2, 3, 4, 5] rfl)
        refine lv_if_ne (pc := 43) (tgt := 69) hx hb dX4_comesFrom_43 (by decide) (fun c23 => ?_) (fun c23 => ?_)
        · replace h := (if_neg c23).symm.trans h
          exact hJ22 _ _ _ h hP hS (lv_sub hl [1, 2, 3, 4, 5, 0] rfl)
        · replace h := (if_pos c23).symm.trans h
          refine lv_aload_n (pc := 46) hx hb dX4_comesFrom_46 rfl (lv_at hl 1 rfl) ?_
          refine tl_gM_12 (pc := 47) C hc4 hP lk2 dX4_comesFrom_47 ?_
          refine lv_iload (pc := 50) hx hb dX4_comesFrom_50 (lv_at hl 5 rfl) ?_
          obtain ⟨g24, h⟩ := tl_gd h
          refine tl_ald (pc := 52) C hP (tl_a43 g) g24 dX4_comesFrom_52 ?_
          refine lv_if_le (pc := 53) (tgt := 69) hx hb dX4_comesFrom_53 (by decide) (fun c25 => ?_) (fun c25 => ?_)
          · replace h := (if_pos c25).symm.trans h
            exact hJ22 _ _ _ h hP hS (lv_sub hl [1, 2, 3, 4, 5, 0] rfl)
          · replace h := (if_neg c25).symm.trans h
            refine lv_iload (pc := 56) hx hb dX4_comesFrom_56 (lv_at hl 0 rfl) ?_
            refine lv_bipush (pc := 58) (v := 6) hx hb dX4_comesFrom_58 (by decide) ?_
            refine lv_iload_n (pc := 60) hx hb dX4_comesFrom_60 rfl (lv_at hl 2 rfl) ?_
            refine lv_imul (pc := 61) hx hb dX4_comesFrom_61 ?_
            refine lv_icmp_lt (pc := 62) (tgt := 69) hx hb dX4_comesFrom_62 (by decide) (fun c26 => ?_) (fun c26 => ?_)
            · replace h := (if_pos c26).symm.trans h
              exact hJ22 _ _ _ h hP hS (lv_sub hl [1, 2, 3, 4, 5, 0] rfl)
            · replace h := (if_neg c26).symm.trans h
              refine lv_iconst (pc := 65) (v := 1) hx hb dX4_comesFrom_65 (by decide) ?_
              refine lv_goto (pc := 66) (tgt := 70) hx hb dX4_comesFrom_66 (by decide) ?_
              exact hJ11 1 _ _ _ h hP hS (lv_sub hl [1, 2, 3, 4, 5, 0] rfl)
  exact hL8 1000 (-1) 999999 0 _ _ _ h hP hS (lv_sub hl [3, 4, 2, 1, 0] rfl)
theorem caX4_comesFrom {p : Program} {l : Launch} {e : Env} {R : Room} {s : State} {m : MethodId} {args : Array Value} {below : List Frame} {meth : Method} {c : Code} {H : Heap} {locs : List Loc} {Q : State → Prop} {cc : ByteArray} {pc : Nat} {ls : Array Slot} {rest : List Value} {g : tl_G} {σ : tl_St} {H0 : Heap} {nL : Nat} {own : String} {ret : Option FieldType} {index : Nat} (C : tl_C p s m meth c cc nL own ret g) {Ts : List Cond} (hts : ∀ w ∈ Ts, w.before args s = true) (hP : va_P g.1 vwCl (tl_W g σ) H) (hS : va_S (tl_A g) H0 H locs) {a1 : Int32} {ro : Int32} (h : fX4_comesFrom σ a1 = some ro) (hG : GoodIn Ts (wsV own index RX4 yX4_comesFrom wsX4_comesFrom)) (hR : 1 + 1 ≤ R.frames ∧ 8 + (7 + 11) + 22 ≤ R.locals) (hls : ls.size = nL) (hrm : (rest.map fun v => v.category).sum ≤ 8) (hdg : decode cc pc = .ok (.invokevirtual index, 3)) (kk : ∀ (H1 : Heap) (locs1 : List Loc), va_P g.1 vwCl (tl_W g σ) H1 → va_S (tl_A g) H0 H1 locs1 → W p l e R s m args below meth c H1 locs1 0 0 Q (F0 m (pc + 3) ls (.int ro :: rest))) : W p l e R s m args below meth c H locs 0 0 Q (F0 m pc ls (.int a1 :: .ref (tl_ad g 34) :: rest)) :=
  tl_goi (tl_callV C hts hP (okX4_comesFrom l g C.2.2.2.2.2.2.2 σ a1 ro h) rfl rfl rfl (n := 1) (by decide +kernel) rfl (ci := 4) rfl (tl_kM g σ) hG hR hls rfl hrm hdg) hS kk
abbrev rX4_moves : Room := { frames := 2, cells := 0, slots := 0, locals := 48 }
set_option maxHeartbeats 4000000 in
set_option maxRecDepth 100000 in
theorem okX4_moves (l : Launch) (g : tl_G) (hI : tl_I g) (σ : tl_St) (σo : tl_St) (h : fX4_moves σ = some σo) : Met l yX4_moves wsX4_moves rX4_moves (va_Pc [.ref (tl_ad g 34)] (tl_Pre g σ)) (tl_Qv g σo) 0 0 (tl_A g) := by
  refine tl_enter (cc := cX4_moves) (maxL := 3) (ret := none) (own := RX4) hI (by decide) rfl rfl (Nat.le_of_ble_eq_true rfl) ?_
  intro p e s m below meth c C hts H locs hP hS ls hl
  have hx := C.1
  have hb := C.2.1
  have hl : lv_has ls 3 [(0, .ref (tl_ad g 34))] := hl
  have hc4 : ∀ w ∈ u_ws RX4 TX4 30, w.before [.ref (tl_ad g 34)].toArray s = true := fun w hw => hts w (List.mem_cons_of_mem _ (List.mem_append_right _ hw))
  have lk0 : (Cond.fieldLink RX4 159 "ThriftLockModel" "without" "I").before [.ref (tl_ad g 34)].toArray s = true := hts _ (List.mem_cons_of_mem _ (List.mem_append_left _ (List.mem_append_left _ (List.mem_of_getElem? (i := 0) rfl))))
  have lk1 : (Cond.fieldLink RX4 162 "ThriftLockModel" "leaks" "I").before [.ref (tl_ad g 34)].toArray s = true := hts _ (List.mem_cons_of_mem _ (List.mem_append_left _ (List.mem_append_left _ (List.mem_of_getElem? (i := 1) rfl))))
  have lk2 : (Cond.fieldLink RX4 90 "ThriftLockModel" "full" "Z").before [.ref (tl_ad g 34)].toArray s = true := hts _ (List.mem_cons_of_mem _ (List.mem_append_left _ (List.mem_append_left _ (List.mem_of_getElem? (i := 4) rfl))))
  have lk3 : (Cond.fieldLink RX4 96 "ThriftLockModel" "basins" "I").before [.ref (tl_ad g 34)].toArray s = true := hts _ (List.mem_cons_of_mem _ (List.mem_append_left _ (List.mem_append_left _ (List.mem_of_getElem? (i := 7) rfl))))
  have lk4 : (Cond.fieldLink RX4 31 "ThriftLockModel" "leak" "[I").before [.ref (tl_ad g 34)].toArray s = true := hts _ (List.mem_cons_of_mem _ (List.mem_append_left _ (List.mem_append_left _ (List.mem_of_getElem? (i := 8) rfl))))
  have lk5 : (Cond.fieldLink RX4 34 "ThriftLockModel" "held" "[I").before [.ref (tl_ad g 34)].toArray s = true := hts _ (List.mem_cons_of_mem _ (List.mem_append_left _ (List.mem_append_left _ (List.mem_of_getElem? (i := 6) rfl))))
  have lk6 : (Cond.fieldLink RX4 56 "ThriftLockModel" "head" "I").before [.ref (tl_ad g 34)].toArray s = true := hts _ (List.mem_cons_of_mem _ (List.mem_append_left _ (List.mem_append_left _ (List.mem_of_getElem? (i := 3) rfl))))
  have lk7 : (Cond.fieldLink RX4 44 "ThriftLockModel" "steps" "[I").before [.ref (tl_ad g 34)].toArray s = true := hts _ (List.mem_cons_of_mem _ (List.mem_append_left _ (List.mem_append_left _ (List.mem_of_getElem? (i := 5) rfl))))
  have lk8 : (Cond.fieldLink RX4 47 "ThriftLockModel" "went" "[I").before [.ref (tl_ad g 34)].toArray s = true := hts _ (List.mem_cons_of_mem _ (List.mem_append_left _ (List.mem_append_left _ (List.mem_of_getElem? (i := 2) rfl))))
  unfold fX4_moves at h
  refine lv_aload_n (pc := 0) hx hb dX4_moves_0 rfl (lv_at hl 0 rfl) ?_
  refine lv_iconst (pc := 1) (v := 0) hx hb dX4_moves_1 (by decide) ?_
  obtain ⟨σ1, eσ1, h⟩ := tl_nm h
  refine tl_sM_20 (pc := 2) C hc4 hP hS eσ1 lk0 dX4_moves_2 (fun H locs hP hS => ?_)
  refine lv_aload_n (pc := 5) hx hb dX4_moves_5 rfl (lv_at hl 0 rfl) ?_
  refine lv_iconst (pc := 6) (v := 0) hx hb dX4_moves_6 (by decide) ?_
  obtain ⟨σ2, eσ2, h⟩ := tl_nm h
  refine tl_sM_21 (pc := 7) C hc4 hP hS eσ2 lk1 dX4_moves_7 (fun H locs hP hS => ?_)
  refine lv_iconst (pc := 10) (v := 0) hx hb dX4_moves_10 (by decide) ?_
  refine lv_istore_n (pc := 11) (lv' := [(1, .int 0), (0, .ref (tl_ad g 34))]) hx hb dX4_moves_11 rfl hl (by decide) rfl (fun ls hl => ?_)
  obtain ⟨k4, ek4, h⟩ := tl_j1 h
  have hZ4 : ∀ (σ3 : tl_St) (H : Heap) (locs : List Loc) (ls : Array Slot), k4 σ3 = some σo → va_P g.1 vwCl (tl_W g σ3) H → va_S (tl_A g) s.heap H locs → lv_has ls 3 [(0, .ref (tl_ad g 34))] → W p l e rX4_moves s m [.ref (tl_ad g 34)].toArray below meth c H locs 0 0 (MQ below (tl_Qv g σo) [.ref (tl_ad g 34)].toArray s 0 0 (tl_A g)) (F0 m 30 ls []) := by
    intro σ3 H locs ls h hP hS hl
    replace h := (ek4 σ3).trans h
    refine lv_iconst (pc := 30) (v := 0) hx hb dX4_moves_30 (by decide) ?_
    refine lv_istore_n (pc := 31) (lv' := [(1, .int 0), (0, .ref (tl_ad g 34))]) hx hb dX4_moves_31 rfl hl (by decide) rfl (fun ls hl => ?_)
    obtain ⟨k6, ek6, h⟩ := tl_j1 h
    have hZ6 : ∀ (σ5 : tl_St) (H : Heap) (locs : List Loc) (ls : Array Slot), k6 σ5 = some σo → va_P g.1 vwCl (tl_W g σ5) H → va_S (tl_A g) s.heap H locs → lv_has ls 3 [(0, .ref (tl_ad g 34))] → W p l e rX4_moves s m [.ref (tl_ad g 34)].toArray below meth c H locs 0 0 (MQ below (tl_Qv g σo) [.ref (tl_ad g 34)].toArray s 0 0 (tl_A g)) (F0 m 138 ls []) := by
      intro σ5 H locs ls h hP hS hl
      replace h := (ek6 σ5).trans h
      refine lv_aload_n (pc := 138) hx hb dX4_moves_138 rfl (lv_at hl 0 rfl) ?_
      refine lv_aload_n (pc := 139) hx hb dX4_moves_139 rfl (lv_at hl 0 rfl) ?_
      refine tl_gM_6 (pc := 140) C hc4 hP lk2 dX4_moves_140 ?_
      obtain ⟨k8, ek8, h⟩ := tl_j1 h
      have hJ8 : ∀ (x7 : Int32) (H : Heap) (locs : List Loc) (ls : Array Slot), k8 x7 = some σo → va_P g.1 vwCl (tl_W g σ5) H → va_S (tl_A g) s.heap H locs → lv_has ls 3 [(0, .ref (tl_ad g 34))] → W p l e rX4_moves s m [.ref (tl_ad g 34)].toArray below meth c H locs 0 0 (MQ below (tl_Qv g σo) [.ref (tl_ad g 34)].toArray s 0 0 (tl_A g)) (F0 m 151 ls [.int x7, .ref (tl_ad g 34)]) := by
        intro x7 H locs ls h hP hS hl
        replace h := (ek8 x7).trans h
        obtain ⟨g9, h⟩ := tl_gd h
        obtain ⟨σ10, eσ10, h⟩ := tl_nm h
        refine tl_sM_6 (pc := 151) C hc4 hP hS g9 eσ10 lk2 dX4_moves_151 (fun H locs hP hS => ?_)
        refine lv_iconst (pc := 154) (v := 0) hx hb dX4_moves_154 (by decide) ?_
        refine lv_istore_n (pc := 155) (lv' := [(1, .int 0), (0, .ref (tl_ad g 34))]) hx hb dX4_moves_155 rfl hl (by decide) rfl (fun ls hl => ?_)
        obtain ⟨k12, ek12, h⟩ := tl_j1 h
        have hZ12 : ∀ (σ11 : tl_St) (H : Heap) (locs : List Loc) (ls : Array Slot), k12 σ11 = some σo → va_P g.1 vwCl (tl_W g σ11) H → va_S (tl_A g) s.heap H locs → lv_has ls 3 [] → W p l e rX4_moves s m [.ref (tl_ad g 34)].toArray below meth c H locs 0 0 (MQ below (tl_Qv g σo) [.ref (tl_ad g 34)].toArray s 0 0 (tl_A g)) (F0 m 206 ls []) := by
          intro σ11 H locs ls h hP hS hl
          replace h := (ek12 σ11).trans h
          exact tl_Rvpw (pc := 206) C h hP hS dX4_moves_206
        have hL156 : ∀ (n : Nat) (σ13 : tl_St) (x14 : Int32) (H : Heap) (locs : List Loc) (ls : Array Slot), fX4_moves_L156 k12 n σ13 x14 = some σo → va_P g.1 vwCl (tl_W g σ13) H → va_S (tl_A g) s.heap H locs → lv_has ls 3 [(0, .ref (tl_ad g 34)), (1, .int x14)] → W p l e rX4_moves s m [.ref (tl_ad g 34)].toArray below meth c H locs 0 0 (MQ below (tl_Qv g σo) [.ref (tl_ad g 34)].toArray s 0 0 (tl_A g)) (F0 m 156 ls []) := by
          intro n
          induction n with
          | zero =>
            intro σ13 x14 H locs ls h hP hS hl
            rw [fX4_moves_L156] at h
            cases h
          | succ n ih =>
            intro σ13 x14 H locs ls h hP hS hl
            rw [fX4_moves_L156] at h
            refine lv_iload_n (pc := 156) hx hb dX4_moves_156 rfl (lv_at hl 1 rfl) ?_
            refine lv_aload_n (pc := 157) hx hb dX4_moves_157 rfl (lv_at hl 0 rfl) ?_
            refine tl_gM_7 (pc := 158) C hc4 hP lk3 dX4_moves_158 ?_
            refine lv_icmp_ge (pc := 161) (tgt := 206) hx hb dX4_moves_161 (by decide) (fun c15 => ?_) (fun c15 => ?_)
            · replace h := (if_pos c15).symm.trans h
              exact hZ12 σ13 _ _ _ h hP hS (lv_sub hl [] rfl)
            · replace h := (if_neg c15).symm.trans h
              refine lv_aload_n (pc := 164) hx hb dX4_moves_164 rfl (lv_at hl 0 rfl) ?_
              refine tl_gM_11 (pc := 165) C hc4 hP lk4 dX4_moves_165 ?_
              refine lv_iload_n (pc := 168) hx hb dX4_moves_168 rfl (lv_at hl 1 rfl) ?_
              obtain ⟨g16, h⟩ := tl_gd h
              refine tl_ald (pc := 169) C hP (tl_a42 g) g16 dX4_moves_169 ?_
              refine lv_aload_n (pc := 170) hx hb dX4_moves_170 rfl (lv_at hl 0 rfl) ?_
              refine tl_gM_12 (pc := 171) C hc4 hP lk5 dX4_moves_171 ?_
              refine lv_iload_n (pc := 174) hx hb dX4_moves_174 rfl (lv_at hl 1 rfl) ?_
              obtain ⟨g17, h⟩ := tl_gd h
              refine tl_ald (pc := 175) C hP (tl_a43 g) g17 dX4_moves_175 ?_
              obtain ⟨r18, er18, h⟩ := tl_nm h
              refine caX4_lesser (pc := 176) C hts hP hS er18 gX4_moves_X4_lesser ⟨Nat.le_of_ble_eq_true rfl, Nat.le_of_ble_eq_true rfl⟩ hl.1 (Nat.le_of_ble_eq_true rfl) dX4_moves_176 (fun H locs hP hS => ?_)
              refine lv_istore_n (pc := 179) (lv' := [(2, .int r18), (0, .ref (tl_ad g 34)), (1, .int x14)]) hx hb dX4_moves_179 rfl hl (by decide) rfl (fun ls hl => ?_)
              refine lv_aload_n (pc := 180) hx hb dX4_moves_180 rfl (lv_at hl 1 rfl) ?_
              refine tl_gM_12 (pc := 181) C hc4 hP lk5 dX4_moves_181 ?_
              refine lv_iload_n (pc := 184) hx hb dX4_moves_184 rfl (lv_at hl 2 rfl) ?_
              refine lv_dup2_11 (pc := 185) hx hb dX4_moves_185 rfl rfl ?_
              obtain ⟨g19, h⟩ := tl_gd h
              refine tl_ald (pc := 186) C hP (tl_a43 g) g19 dX4_moves_186 ?_
              refine lv_iload_n (pc := 187) hx hb dX4_moves_187 rfl (lv_at hl 0 rfl) ?_
              refine lv_isub (pc := 188) hx hb dX4_moves_188 ?_
              obtain ⟨g20, h⟩ := tl_gd h
              obtain ⟨σ21, eσ21, h⟩ := tl_nm h
              refine tl_ast (pc := 189) C hP hS (tl_a43 g) g20 eσ21 dX4_moves_189 (fun H locs hP hS => ?_)
              refine lv_aload_n (pc := 190) hx hb dX4_moves_190 rfl (lv_at hl 1 rfl) ?_
              refine lv_dup (pc := 191) hx hb dX4_moves_191 rfl ?_
              refine tl_gM_21 (pc := 192) C hc4 hP lk1 dX4_moves_192 ?_
              refine lv_iload_n (pc := 195) hx hb dX4_moves_195 rfl (lv_at hl 0 rfl) ?_
              refine lv_iadd (pc := 196) hx hb dX4_moves_196 ?_
              obtain ⟨σ22, eσ22, h⟩ := tl_nm h
              refine tl_sM_21 (pc := 197) C hc4 hP hS eσ22 lk1 dX4_moves_197 (fun H locs hP hS => ?_)
              obtain ⟨x23, ex23, h⟩ := tl_nm h
              refine lv_iinc (pc := 200) (v := x23) (lv' := [(1, .int x23), (2, .int r18), (0, .ref (tl_ad g 34))]) hx hb dX4_moves_200 hl (k := 2) rfl ex23 (by decide) rfl (fun ls hl => ?_)
              refine lv_goto (pc := 203) (tgt := 156) hx hb dX4_moves_203 (by decide) ?_
              exact ih σ22 x23 _ _ _ h hP hS (lv_sub hl [2, 0] rfl)
        exact hL156 1000 σ10 0 _ _ _ h hP hS (lv_sub hl [1, 0] rfl)
      refine lv_if_ne (pc := 143) (tgt := 150) hx hb dX4_moves_143 (by decide) (fun c24 => ?_) (fun c24 => ?_)
      · replace h := (if_neg c24).symm.trans h
        refine lv_iconst (pc := 150) (v := 0) hx hb dX4_moves_150 (by decide) ?_
        exact hJ8 0 _ _ _ h hP hS (lv_sub hl [0] rfl)
      · replace h := (if_pos c24).symm.trans h
        refine lv_iconst (pc := 146) (v := 1) hx hb dX4_moves_146 (by decide) ?_
        refine lv_goto (pc := 147) (tgt := 151) hx hb dX4_moves_147 (by decide) ?_
        exact hJ8 1 _ _ _ h hP hS (lv_sub hl [0] rfl)
    have hL32 : ∀ (n : Nat) (σ25 : tl_St) (x26 : Int32) (H : Heap) (locs : List Loc) (ls : Array Slot), fX4_moves_L32 k6 n σ25 x26 = some σo → va_P g.1 vwCl (tl_W g σ25) H → va_S (tl_A g) s.heap H locs → lv_has ls 3 [(0, .ref (tl_ad g 34)), (1, .int x26)] → W p l e rX4_moves s m [.ref (tl_ad g 34)].toArray below meth c H locs 0 0 (MQ below (tl_Qv g σo) [.ref (tl_ad g 34)].toArray s 0 0 (tl_A g)) (F0 m 32 ls []) := by
      intro n
      induction n with
      | zero =>
        intro σ25 x26 H locs ls h hP hS hl
        rw [fX4_moves_L32] at h
        cases h
      | succ n ih =>
        intro σ25 x26 H locs ls h hP hS hl
        rw [fX4_moves_L32] at h
        refine lv_iload_n (pc := 32) hx hb dX4_moves_32 rfl (lv_at hl 1 rfl) ?_
        refine lv_aload_n (pc := 33) hx hb dX4_moves_33 rfl (lv_at hl 0 rfl) ?_
        refine tl_gM_5 (pc := 34) C hc4 hP lk6 dX4_moves_34 ?_
        refine lv_icmp_ge (pc := 37) (tgt := 138) hx hb dX4_moves_37 (by decide) (fun c27 => ?_) (fun c27 => ?_)
        · replace h := (if_pos c27).symm.trans h
          exact hZ6 σ25 _ _ _ h hP hS (lv_sub hl [0] rfl)
        · replace h := (if_neg c27).symm.trans h
          refine lv_aload_n (pc := 40) hx hb dX4_moves_40 rfl (lv_at hl 0 rfl) ?_
          refine tl_gM_6 (pc := 41) C hc4 hP lk2 dX4_moves_41 ?_
          obtain ⟨k29, ek29, h⟩ := tl_j1 h
          have hJ29 : ∀ (x28 : Int32) (H : Heap) (locs : List Loc) (ls : Array Slot), k29 x28 = some σo → va_P g.1 vwCl (tl_W g σ25) H → va_S (tl_A g) s.heap H locs → lv_has ls 3 [(0, .ref (tl_ad g 34)), (1, .int x26)] → W p l e rX4_moves s m [.ref (tl_ad g 34)].toArray below meth c H locs 0 0 (MQ below (tl_Qv g σo) [.ref (tl_ad g 34)].toArray s 0 0 (tl_A g)) (F0 m 69 ls [.int x28]) := by
            intro x28 H locs ls h hP hS hl
            replace h := (ek29 x28).trans h
            refine lv_istore_n (pc := 69) (lv' := [(2, .int x28), (0, .ref (tl_ad g 34)), (1, .int x26)]) hx hb dX4_moves_69 rfl hl (by decide) rfl (fun ls hl => ?_)
            refine lv_aload_n (pc := 70) hx hb dX4_moves_70 rfl (lv_at hl 1 rfl) ?_
            refine tl_gM_18 (pc := 71) C hc4 hP lk7 dX4_moves_71 ?_
            refine lv_iload_n (pc := 74) hx hb dX4_moves_74 rfl (lv_at hl 2 rfl) ?_
            refine lv_iload_n (pc := 75) hx hb dX4_moves_75 rfl (lv_at hl 0 rfl) ?_
            obtain ⟨g30, h⟩ := tl_gd h
            obtain ⟨σ31, eσ31, h⟩ := tl_nm h
            refine tl_ast (pc := 76) C hP hS (tl_a46 g) g30 eσ31 dX4_moves_76 (fun H locs hP hS => ?_)
            refine lv_aload_n (pc := 77) hx hb dX4_moves_77 rfl (lv_at hl 1 rfl) ?_
            refine lv_dup (pc := 78) hx hb dX4_moves_78 rfl ?_
            refine tl_gM_20 (pc := 79) C hc4 hP lk0 dX4_moves_79 ?_
            refine lv_iload_n (pc := 82) hx hb dX4_moves_82 rfl (lv_at hl 0 rfl) ?_
            refine lv_iconst (pc := 83) (v := (-1)) hx hb dX4_moves_83 (by decide) ?_
            obtain ⟨k33, ek33, h⟩ := tl_j1 h
            have hJ33 : ∀ (x32 : Int32) (H : Heap) (locs : List Loc) (ls : Array Slot), k33 x32 = some σo → va_P g.1 vwCl (tl_W g σ31) H → va_S (tl_A g) s.heap H locs → lv_has ls 3 [(0, .ref (tl_ad g 34)), (1, .int x26), (2, .int x28)] → W p l e rX4_moves s m [.ref (tl_ad g 34)].toArray below meth c H locs 0 0 (MQ below (tl_Qv g σo) [.ref (tl_ad g 34)].toArray s 0 0 (tl_A g)) (F0 m 92 ls [.int x32, .int (σ31 34 20), .ref (tl_ad g 34)]) := by
              intro x32 H locs ls h hP hS hl
              replace h := (ek33 x32).trans h
              refine lv_iadd (pc := 92) hx hb dX4_moves_92 ?_
              obtain ⟨σ34, eσ34, h⟩ := tl_nm h
              refine tl_sM_20 (pc := 93) C hc4 hP hS eσ34 lk0 dX4_moves_93 (fun H locs hP hS => ?_)
              refine lv_iload_n (pc := 96) hx hb dX4_moves_96 rfl (lv_at hl 2 rfl) ?_
              refine lv_iconst (pc := 97) (v := (-1)) hx hb dX4_moves_97 (by decide) ?_
              refine lv_icmp_eq (pc := 98) (tgt := 132) hx hb dX4_moves_98 (by decide) (fun c35 => ?_) (fun c35 => ?_)
              · replace h := (if_pos c35).symm.trans h
                obtain ⟨x36, ex36, h⟩ := tl_nm h
                refine lv_iinc (pc := 132) (v := x36) (lv' := [(1, .int x36), (0, .ref (tl_ad g 34)), (2, .int x28)]) hx hb dX4_moves_132 hl (k := 1) rfl ex36 (by decide) rfl (fun ls hl => ?_)
                refine lv_goto (pc := 135) (tgt := 32) hx hb dX4_moves_135 (by decide) ?_
                exact ih σ34 x36 _ _ _ h hP hS (lv_sub hl [1, 0] rfl)
              · replace h := (if_neg c35).symm.trans h
                refine lv_aload_n (pc := 101) hx hb dX4_moves_101 rfl (lv_at hl 0 rfl) ?_
                refine tl_gM_12 (pc := 102) C hc4 hP lk5 dX4_moves_102 ?_
                refine lv_iload_n (pc := 105) hx hb dX4_moves_105 rfl (lv_at hl 2 rfl) ?_
                refine lv_dup2_11 (pc := 106) hx hb dX4_moves_106 rfl rfl ?_
                obtain ⟨g37, h⟩ := tl_gd h
                refine tl_ald (pc := 107) C hP (tl_a43 g) g37 dX4_moves_107 ?_
                refine lv_aload_n (pc := 108) hx hb dX4_moves_108 rfl (lv_at hl 0 rfl) ?_
                refine tl_gM_6 (pc := 109) C hc4 hP lk2 dX4_moves_109 ?_
                obtain ⟨k39, ek39, h⟩ := tl_j1 h
                have hJ39 : ∀ (x38 : Int32) (H : Heap) (locs : List Loc) (ls : Array Slot), k39 x38 = some σo → va_P g.1 vwCl (tl_W g σ34) H → va_S (tl_A g) s.heap H locs → lv_has ls 3 [(0, .ref (tl_ad g 34)), (1, .int x26), (2, .int x28)] → W p l e rX4_moves s m [.ref (tl_ad g 34)].toArray below meth c H locs 0 0 (MQ below (tl_Qv g σo) [.ref (tl_ad g 34)].toArray s 0 0 (tl_A g)) (F0 m 120 ls [.int x38, .int (σ34 43 x28.toNatClampNeg), .int x28, .ref (tl_ad g 43)]) := by
                  intro x38 H locs ls h hP hS hl
                  replace h := (ek39 x38).trans h
                  refine lv_iadd (pc := 120) hx hb dX4_moves_120 ?_
                  obtain ⟨g40, h⟩ := tl_gd h
                  obtain ⟨σ41, eσ41, h⟩ := tl_nm h
                  refine tl_ast (pc := 121) C hP hS (tl_a43 g) g40 eσ41 dX4_moves_121 (fun H locs hP hS => ?_)
                  refine lv_aload_n (pc := 122) hx hb dX4_moves_122 rfl (lv_at hl 0 rfl) ?_
                  refine tl_gM_19 (pc := 123) C hc4 hP lk8 dX4_moves_123 ?_
                  refine lv_iload_n (pc := 126) hx hb dX4_moves_126 rfl (lv_at hl 2 rfl) ?_
                  refine lv_dup2_11 (pc := 127) hx hb dX4_moves_127 rfl rfl ?_
                  obtain ⟨g42, h⟩ := tl_gd h
                  refine tl_ald (pc := 128) C hP (tl_a47 g) g42 dX4_moves_128 ?_
                  refine lv_iconst (pc := 129) (v := 1) hx hb dX4_moves_129 (by decide) ?_
                  refine lv_iadd (pc := 130) hx hb dX4_moves_130 ?_
                  obtain ⟨g43, h⟩ := tl_gd h
                  obtain ⟨σ44, eσ44, h⟩ := tl_nm h
                  refine tl_ast (pc := 131) C hP hS (tl_a47 g) g43 eσ44 dX4_moves_131 (fun H locs hP hS => ?_)
                  obtain ⟨x45, ex45, h⟩ := tl_nm h
                  refine lv_iinc (pc := 132) (v := x45) (lv' := [(1, .int x45), (0, .ref (tl_ad g 34)), (2, .int x28)]) hx hb dX4_moves_132 hl (k := 1) rfl ex45 (by decide) rfl (fun ls hl => ?_)
                  refine lv_goto (pc := 135) (tgt := 32) hx hb dX4_moves_135 (by decide) ?_
                  exact ih σ44 x45 _ _ _ h hP hS (lv_sub hl [1, 0] rfl)
                refine lv_if_eq (pc := 112) (tgt := 119) hx hb dX4_moves_112 (by decide) (fun c46 => ?_) (fun c46 => ?_)
                · replace h := (if_pos c46).symm.trans h
                  refine lv_iconst (pc := 119) (v := (-1)) hx hb dX4_moves_119 (by decide) ?_
                  exact hJ39 (-1) _ _ _ h hP hS (lv_sub hl [0, 1, 2] rfl)
                · replace h := (if_neg c46).symm.trans h
                  refine lv_iconst (pc := 115) (v := 1) hx hb dX4_moves_115 (by decide) ?_
                  refine lv_goto (pc := 116) (tgt := 120) hx hb dX4_moves_116 (by decide) ?_
                  exact hJ39 1 _ _ _ h hP hS (lv_sub hl [0, 1, 2] rfl)
            refine lv_icmp_ne (pc := 84) (tgt := 91) hx hb dX4_moves_84 (by decide) (fun c47 => ?_) (fun c47 => ?_)
            · replace h := (if_neg c47).symm.trans h
              refine lv_iconst (pc := 91) (v := 0) hx hb dX4_moves_91 (by decide) ?_
              exact hJ33 0 _ _ _ h hP hS (lv_sub hl [1, 2, 0] rfl)
            · replace h := (if_pos c47).symm.trans h
              refine lv_iconst (pc := 87) (v := 1) hx hb dX4_moves_87 (by decide) ?_
              refine lv_goto (pc := 88) (tgt := 92) hx hb dX4_moves_88 (by decide) ?_
              exact hJ33 1 _ _ _ h hP hS (lv_sub hl [1, 2, 0] rfl)
          refine lv_if_eq (pc := 44) (tgt := 62) hx hb dX4_moves_44 (by decide) (fun c48 => ?_) (fun c48 => ?_)
          · replace h := (if_pos c48).symm.trans h
            refine lv_aload_n (pc := 62) hx hb dX4_moves_62 rfl (lv_at hl 0 rfl) ?_
            refine lv_iload_n (pc := 63) hx hb dX4_moves_63 rfl (lv_at hl 1 rfl) ?_
            refine lv_iconst (pc := 64) (v := 1) hx hb dX4_moves_64 (by decide) ?_
            refine lv_iadd (pc := 65) hx hb dX4_moves_65 ?_
            obtain ⟨r49, er49, h⟩ := tl_o1s h
            refine caX4_comesFrom (pc := 66) C hts hP hS er49 gX4_moves_X4_comesFrom ⟨Nat.le_of_ble_eq_true rfl, Nat.le_of_ble_eq_true rfl⟩ hl.1 (Nat.le_of_ble_eq_true rfl) dX4_moves_66 (fun H locs hP hS => ?_)
            exact hJ29 r49 _ _ _ h hP hS (lv_sub hl [0, 1] rfl)
          · replace h := (if_neg c48).symm.trans h
            refine lv_aload_n (pc := 47) hx hb dX4_moves_47 rfl (lv_at hl 0 rfl) ?_
            refine lv_aload_n (pc := 48) hx hb dX4_moves_48 rfl (lv_at hl 0 rfl) ?_
            refine tl_gM_5 (pc := 49) C hc4 hP lk6 dX4_moves_49 ?_
            refine lv_iconst (pc := 52) (v := 1) hx hb dX4_moves_52 (by decide) ?_
            refine lv_isub (pc := 53) hx hb dX4_moves_53 ?_
            refine lv_iload_n (pc := 54) hx hb dX4_moves_54 rfl (lv_at hl 1 rfl) ?_
            refine lv_isub (pc := 55) hx hb dX4_moves_55 ?_
            obtain ⟨r50, er50, h⟩ := tl_o1s h
            refine caX4_goesTo (pc := 56) C hts hP hS er50 gX4_moves_X4_goesTo ⟨Nat.le_of_ble_eq_true rfl, Nat.le_of_ble_eq_true rfl⟩ hl.1 (Nat.le_of_ble_eq_true rfl) dX4_moves_56 (fun H locs hP hS => ?_)
            refine lv_goto (pc := 59) (tgt := 69) hx hb dX4_moves_59 (by decide) ?_
            exact hJ29 r50 _ _ _ h hP hS (lv_sub hl [0, 1] rfl)
    exact hL32 1000 σ3 0 _ _ _ h hP hS (lv_sub hl [1, 0] rfl)
  have hL12 : ∀ (n : Nat) (σ51 : tl_St) (x52 : Int32) (H : Heap) (locs : List Loc) (ls : Array Slot), fX4_moves_L12 k4 n σ51 x52 = some σo → va_P g.1 vwCl (tl_W g σ51) H → va_S (tl_A g) s.heap H locs → lv_has ls 3 [(0, .ref (tl_ad g 34)), (1, .int x52)] → W p l e rX4_moves s m [.ref (tl_ad g 34)].toArray below meth c H locs 0 0 (MQ below (tl_Qv g σo) [.ref (tl_ad g 34)].toArray s 0 0 (tl_A g)) (F0 m 12 ls []) := by
    intro n
    induction n with
    | zero =>
      intro σ51 x52 H locs ls h hP hS hl
      rw [fX4_moves_L12] at h
      cases h
    | succ n ih =>
      intro σ51 x52 H locs ls h hP hS hl
      rw [fX4_moves_L12] at h
      refine lv_iload_n (pc := 12) hx hb dX4_moves_12 rfl (lv_at hl 1 rfl) ?_
      refine lv_iconst (pc := 13) (v := 4) hx hb dX4_moves_13 (by decide) ?_
      refine lv_icmp_ge (pc := 14) (tgt := 30) hx hb dX4_moves_14 (by decide) (fun c53 => ?_) (fun c53 => ?_)
      · replace h := (if_pos c53).symm.trans h
        exact hZ4 σ51 _ _ _ h hP hS (lv_sub hl [0] rfl)
      · replace h := (if_neg c53).symm.trans h
        refine lv_aload_n (pc := 17) hx hb dX4_moves_17 rfl (lv_at hl 0 rfl) ?_
        refine tl_gM_19 (pc := 18) C hc4 hP lk8 dX4_moves_18 ?_
        refine lv_iload_n (pc := 21) hx hb dX4_moves_21 rfl (lv_at hl 1 rfl) ?_
        refine lv_iconst (pc := 22) (v := 0) hx hb dX4_moves_22 (by decide) ?_
        obtain ⟨g54, h⟩ := tl_gd h
        obtain ⟨σ55, eσ55, h⟩ := tl_nm h
        refine tl_ast (pc := 23) C hP hS (tl_a47 g) g54 eσ55 dX4_moves_23 (fun H locs hP hS => ?_)
        obtain ⟨x56, ex56, h⟩ := tl_nm h
        refine lv_iinc (pc := 24) (v := x56) (lv' := [(1, .int x56), (0, .ref (tl_ad g 34))]) hx hb dX4_moves_24 hl (k := 1) rfl ex56 (by decide) rfl (fun ls hl => ?_)
        refine lv_goto (pc := 27) (tgt := 12) hx hb dX4_moves_27 (by decide) ?_
        exact ih σ55 x56 _ _ _ h hP hS (lv_sub hl [1, 0] rfl)
  exact hL12 1000 σ2 0 _ _ _ h hP hS (lv_sub hl [1, 0] rfl)
theorem caX4_moves {p : Program} {l : Launch} {e : Env} {R : Room} {s : State} {m : MethodId} {args : Array Value} {below : List Frame} {meth : Method} {c : Code} {H : Heap} {locs : List Loc} {Q : State → Prop} {cc : ByteArray} {pc : Nat} {ls : Array Slot} {rest : List Value} {g : tl_G} {σ : tl_St} {H0 : Heap} {nL : Nat} {own : String} {ret : Option FieldType} {index : Nat} (C : tl_C p s m meth c cc nL own ret g) {Ts : List Cond} (hts : ∀ w ∈ Ts, w.before args s = true) (hP : va_P g.1 vwCl (tl_W g σ) H) (hS : va_S (tl_A g) H0 H locs) {σo : tl_St} (h : fX4_moves σ = some σo) (hG : GoodIn Ts (wsV own index RX4 yX4_moves wsX4_moves)) (hR : 2 + 1 ≤ R.frames ∧ 8 + (3 + 11) + 48 ≤ R.locals) (hls : ls.size = nL) (hrm : (rest.map fun v => v.category).sum ≤ 8) (hdg : decode cc pc = .ok (.invokevirtual index, 3)) (kk : ∀ (H1 : Heap) (locs1 : List Loc), va_P g.1 vwCl (tl_W g σo) H1 → va_S (tl_A g) H0 H1 locs1 → W p l e R s m args below meth c H1 locs1 0 0 Q (F0 m (pc + 3) ls (rest))) : W p l e R s m args below meth c H locs 0 0 Q (F0 m pc ls (.ref (tl_ad g 34) :: rest)) :=
  tl_gov (tl_callV C hts hP (okX4_moves l g C.2.2.2.2.2.2.2 σ σo h) rfl rfl rfl (n := 0) (by decide +kernel) rfl (ci := 4) rfl (tl_kM g σ) hG hR hls rfl hrm hdg) hS kk
abbrev rX4_keeps : Room := { frames := 0, cells := 0, slots := 0, locals := 0 }
set_option maxHeartbeats 4000000 in
set_option maxRecDepth 100000 in
theorem okX4_keeps (l : Launch) (g : tl_G) (hI : tl_I g) (σ : tl_St) (σo : tl_St) (h : fX4_keeps σ = some σo) : Met l yX4_keeps wsX4_keeps rX4_keeps (va_Pc [.ref (tl_ad g 34)] (tl_Pre g σ)) (tl_Qv g σo) 0 0 (tl_A g) := by
  refine tl_enter (cc := cX4_keeps) (maxL := 2) (ret := none) (own := RX4) hI (by decide) rfl rfl (Nat.le_of_ble_eq_true rfl) ?_
  intro p e s m below meth c C hts H locs hP hS ls hl
  have hx := C.1
  have hb := C.2.1
  have hl : lv_has ls 2 [(0, .ref (tl_ad g 34))] := hl
  have hc4 : ∀ w ∈ u_ws RX4 TX4 30, w.before [.ref (tl_ad g 34)].toArray s = true := fun w hw => hts w (List.mem_cons_of_mem _ (List.mem_append_right _ hw))
  have lk0 : (Cond.fieldLink RX4 90 "ThriftLockModel" "full" "Z").before [.ref (tl_ad g 34)].toArray s = true := hts _ (List.mem_cons_of_mem _ (List.mem_append_left _ (List.mem_of_getElem? (i := 0) rfl)))
  have lk1 : (Cond.fieldLink RX4 171 "ThriftLockModel" "keptFull" "Z").before [.ref (tl_ad g 34)].toArray s = true := hts _ (List.mem_cons_of_mem _ (List.mem_append_left _ (List.mem_of_getElem? (i := 1) rfl)))
  have lk2 : (Cond.fieldLink RX4 50 "ThriftLockModel" "kept" "[I").before [.ref (tl_ad g 34)].toArray s = true := hts _ (List.mem_cons_of_mem _ (List.mem_append_left _ (List.mem_of_getElem? (i := 2) rfl)))
  have lk3 : (Cond.fieldLink RX4 34 "ThriftLockModel" "held" "[I").before [.ref (tl_ad g 34)].toArray s = true := hts _ (List.mem_cons_of_mem _ (List.mem_append_left _ (List.mem_of_getElem? (i := 3) rfl)))
  unfold fX4_keeps at h
  refine lv_aload_n (pc := 0) hx hb dX4_keeps_0 rfl (lv_at hl 0 rfl) ?_
  refine lv_aload_n (pc := 1) hx hb dX4_keeps_1 rfl (lv_at hl 0 rfl) ?_
  refine tl_gM_6 (pc := 2) C hc4 hP lk0 dX4_keeps_2 ?_
  obtain ⟨g1, h⟩ := tl_gd h
  obtain ⟨σ2, eσ2, h⟩ := tl_nm h
  refine tl_sM_23 (pc := 5) C hc4 hP hS g1 eσ2 lk1 dX4_keeps_5 (fun H locs hP hS => ?_)
  refine lv_iconst (pc := 8) (v := 0) hx hb dX4_keeps_8 (by decide) ?_
  refine lv_istore_n (pc := 9) (lv' := [(1, .int 0), (0, .ref (tl_ad g 34))]) hx hb dX4_keeps_9 rfl hl (by decide) rfl (fun ls hl => ?_)
  obtain ⟨k4, ek4, h⟩ := tl_j1 h
  have hZ4 : ∀ (σ3 : tl_St) (H : Heap) (locs : List Loc) (ls : Array Slot), k4 σ3 = some σo → va_P g.1 vwCl (tl_W g σ3) H → va_S (tl_A g) s.heap H locs → lv_has ls 2 [] → W p l e rX4_keeps s m [.ref (tl_ad g 34)].toArray below meth c H locs 0 0 (MQ below (tl_Qv g σo) [.ref (tl_ad g 34)].toArray s 0 0 (tl_A g)) (F0 m 33 ls []) := by
    intro σ3 H locs ls h hP hS hl
    replace h := (ek4 σ3).trans h
    exact tl_Rvpw (pc := 33) C h hP hS dX4_keeps_33
  have hL10 : ∀ (n : Nat) (σ5 : tl_St) (x6 : Int32) (H : Heap) (locs : List Loc) (ls : Array Slot), fX4_keeps_L10 k4 n σ5 x6 = some σo → va_P g.1 vwCl (tl_W g σ5) H → va_S (tl_A g) s.heap H locs → lv_has ls 2 [(0, .ref (tl_ad g 34)), (1, .int x6)] → W p l e rX4_keeps s m [.ref (tl_ad g 34)].toArray below meth c H locs 0 0 (MQ below (tl_Qv g σo) [.ref (tl_ad g 34)].toArray s 0 0 (tl_A g)) (F0 m 10 ls []) := by
    intro n
    induction n with
    | zero =>
      intro σ5 x6 H locs ls h hP hS hl
      rw [fX4_keeps_L10] at h
      cases h
    | succ n ih =>
      intro σ5 x6 H locs ls h hP hS hl
      rw [fX4_keeps_L10] at h
      refine lv_iload_n (pc := 10) hx hb dX4_keeps_10 rfl (lv_at hl 1 rfl) ?_
      refine lv_iconst (pc := 11) (v := 4) hx hb dX4_keeps_11 (by decide) ?_
      refine lv_icmp_ge (pc := 12) (tgt := 33) hx hb dX4_keeps_12 (by decide) (fun c7 => ?_) (fun c7 => ?_)
      · replace h := (if_pos c7).symm.trans h
        exact hZ4 σ5 _ _ _ h hP hS (lv_sub hl [] rfl)
      · replace h := (if_neg c7).symm.trans h
        refine lv_aload_n (pc := 15) hx hb dX4_keeps_15 rfl (lv_at hl 0 rfl) ?_
        refine tl_gM_22 (pc := 16) C hc4 hP lk2 dX4_keeps_16 ?_
        refine lv_iload_n (pc := 19) hx hb dX4_keeps_19 rfl (lv_at hl 1 rfl) ?_
        refine lv_aload_n (pc := 20) hx hb dX4_keeps_20 rfl (lv_at hl 0 rfl) ?_
        refine tl_gM_12 (pc := 21) C hc4 hP lk3 dX4_keeps_21 ?_
        refine lv_iload_n (pc := 24) hx hb dX4_keeps_24 rfl (lv_at hl 1 rfl) ?_
        obtain ⟨g8, h⟩ := tl_gd h
        refine tl_ald (pc := 25) C hP (tl_a43 g) g8 dX4_keeps_25 ?_
        obtain ⟨g9, h⟩ := tl_gd h
        obtain ⟨σ10, eσ10, h⟩ := tl_nm h
        refine tl_ast (pc := 26) C hP hS (tl_a48 g) g9 eσ10 dX4_keeps_26 (fun H locs hP hS => ?_)
        obtain ⟨x11, ex11, h⟩ := tl_nm h
        refine lv_iinc (pc := 27) (v := x11) (lv' := [(1, .int x11), (0, .ref (tl_ad g 34))]) hx hb dX4_keeps_27 hl (k := 1) rfl ex11 (by decide) rfl (fun ls hl => ?_)
        refine lv_goto (pc := 30) (tgt := 10) hx hb dX4_keeps_30 (by decide) ?_
        exact ih σ10 x11 _ _ _ h hP hS (lv_sub hl [1, 0] rfl)
  exact hL10 1000 σ2 0 _ _ _ h hP hS (lv_sub hl [1, 0] rfl)
theorem caX4_keeps {p : Program} {l : Launch} {e : Env} {R : Room} {s : State} {m : MethodId} {args : Array Value} {below : List Frame} {meth : Method} {c : Code} {H : Heap} {locs : List Loc} {Q : State → Prop} {cc : ByteArray} {pc : Nat} {ls : Array Slot} {rest : List Value} {g : tl_G} {σ : tl_St} {H0 : Heap} {nL : Nat} {own : String} {ret : Option FieldType} {index : Nat} (C : tl_C p s m meth c cc nL own ret g) {Ts : List Cond} (hts : ∀ w ∈ Ts, w.before args s = true) (hP : va_P g.1 vwCl (tl_W g σ) H) (hS : va_S (tl_A g) H0 H locs) {σo : tl_St} (h : fX4_keeps σ = some σo) (hG : GoodIn Ts (wsV own index RX4 yX4_keeps wsX4_keeps)) (hR : 0 + 1 ≤ R.frames ∧ 8 + (2 + 11) + 0 ≤ R.locals) (hls : ls.size = nL) (hrm : (rest.map fun v => v.category).sum ≤ 8) (hdg : decode cc pc = .ok (.invokevirtual index, 3)) (kk : ∀ (H1 : Heap) (locs1 : List Loc), va_P g.1 vwCl (tl_W g σo) H1 → va_S (tl_A g) H0 H1 locs1 → W p l e R s m args below meth c H1 locs1 0 0 Q (F0 m (pc + 3) ls (rest))) : W p l e R s m args below meth c H locs 0 0 Q (F0 m pc ls (.ref (tl_ad g 34) :: rest)) :=
  tl_gov (tl_callV C hts hP (okX4_keeps l g C.2.2.2.2.2.2.2 σ σo h) rfl rfl rfl (n := 0) (by decide +kernel) rfl (ci := 4) rfl (tl_kM g σ) hG hR hls rfl hrm hdg) hS kk
abbrev rX4_takesBack : Room := { frames := 0, cells := 0, slots := 0, locals := 0 }
set_option maxHeartbeats 4000000 in
set_option maxRecDepth 100000 in
theorem okX4_takesBack (l : Launch) (g : tl_G) (hI : tl_I g) (σ : tl_St) (σo : tl_St) (h : fX4_takesBack σ = some σo) : Met l yX4_takesBack wsX4_takesBack rX4_takesBack (va_Pc [.ref (tl_ad g 34)] (tl_Pre g σ)) (tl_Qv g σo) 0 0 (tl_A g) := by
  refine tl_enter (cc := cX4_takesBack) (maxL := 2) (ret := none) (own := RX4) hI (by decide) rfl rfl (Nat.le_of_ble_eq_true rfl) ?_
  intro p e s m below meth c C hts H locs hP hS ls hl
  have hx := C.1
  have hb := C.2.1
  have hl : lv_has ls 2 [(0, .ref (tl_ad g 34))] := hl
  have hc4 : ∀ w ∈ u_ws RX4 TX4 30, w.before [.ref (tl_ad g 34)].toArray s = true := fun w hw => hts w (List.mem_cons_of_mem _ (List.mem_append_right _ hw))
  have lk0 : (Cond.fieldLink RX4 171 "ThriftLockModel" "keptFull" "Z").before [.ref (tl_ad g 34)].toArray s = true := hts _ (List.mem_cons_of_mem _ (List.mem_append_left _ (List.mem_of_getElem? (i := 0) rfl)))
  have lk1 : (Cond.fieldLink RX4 90 "ThriftLockModel" "full" "Z").before [.ref (tl_ad g 34)].toArray s = true := hts _ (List.mem_cons_of_mem _ (List.mem_append_left _ (List.mem_of_getElem? (i := 1) rfl)))
  have lk2 : (Cond.fieldLink RX4 34 "ThriftLockModel" "held" "[I").before [.ref (tl_ad g 34)].toArray s = true := hts _ (List.mem_cons_of_mem _ (List.mem_append_left _ (List.mem_of_getElem? (i := 2) rfl)))
  have lk3 : (Cond.fieldLink RX4 50 "ThriftLockModel" "kept" "[I").before [.ref (tl_ad g 34)].toArray s = true := hts _ (List.mem_cons_of_mem _ (List.mem_append_left _ (List.mem_of_getElem? (i := 3) rfl)))
  unfold fX4_takesBack at h
  refine lv_aload_n (pc := 0) hx hb dX4_takesBack_0 rfl (lv_at hl 0 rfl) ?_
  refine lv_aload_n (pc := 1) hx hb dX4_takesBack_1 rfl (lv_at hl 0 rfl) ?_
  refine tl_gM_23 (pc := 2) C hc4 hP lk0 dX4_takesBack_2 ?_
  obtain ⟨g1, h⟩ := tl_gd h
  obtain ⟨σ2, eσ2, h⟩ := tl_nm h
  refine tl_sM_6 (pc := 5) C hc4 hP hS g1 eσ2 lk1 dX4_takesBack_5 (fun H locs hP hS => ?_)
  refine lv_iconst (pc := 8) (v := 0) hx hb dX4_takesBack_8 (by decide) ?_
  refine lv_istore_n (pc := 9) (lv' := [(1, .int 0), (0, .ref (tl_ad g 34))]) hx hb dX4_takesBack_9 rfl hl (by decide) rfl (fun ls hl => ?_)
  obtain ⟨k4, ek4, h⟩ := tl_j1 h
  have hZ4 : ∀ (σ3 : tl_St) (H : Heap) (locs : List Loc) (ls : Array Slot), k4 σ3 = some σo → va_P g.1 vwCl (tl_W g σ3) H → va_S (tl_A g) s.heap H locs → lv_has ls 2 [] → W p l e rX4_takesBack s m [.ref (tl_ad g 34)].toArray below meth c H locs 0 0 (MQ below (tl_Qv g σo) [.ref (tl_ad g 34)].toArray s 0 0 (tl_A g)) (F0 m 33 ls []) := by
    intro σ3 H locs ls h hP hS hl
    replace h := (ek4 σ3).trans h
    exact tl_Rvpw (pc := 33) C h hP hS dX4_takesBack_33
  have hL10 : ∀ (n : Nat) (σ5 : tl_St) (x6 : Int32) (H : Heap) (locs : List Loc) (ls : Array Slot), fX4_takesBack_L10 k4 n σ5 x6 = some σo → va_P g.1 vwCl (tl_W g σ5) H → va_S (tl_A g) s.heap H locs → lv_has ls 2 [(0, .ref (tl_ad g 34)), (1, .int x6)] → W p l e rX4_takesBack s m [.ref (tl_ad g 34)].toArray below meth c H locs 0 0 (MQ below (tl_Qv g σo) [.ref (tl_ad g 34)].toArray s 0 0 (tl_A g)) (F0 m 10 ls []) := by
    intro n
    induction n with
    | zero =>
      intro σ5 x6 H locs ls h hP hS hl
      rw [fX4_takesBack_L10] at h
      cases h
    | succ n ih =>
      intro σ5 x6 H locs ls h hP hS hl
      rw [fX4_takesBack_L10] at h
      refine lv_iload_n (pc := 10) hx hb dX4_takesBack_10 rfl (lv_at hl 1 rfl) ?_
      refine lv_iconst (pc := 11) (v := 4) hx hb dX4_takesBack_11 (by decide) ?_
      refine lv_icmp_ge (pc := 12) (tgt := 33) hx hb dX4_takesBack_12 (by decide) (fun c7 => ?_) (fun c7 => ?_)
      · replace h := (if_pos c7).symm.trans h
        exact hZ4 σ5 _ _ _ h hP hS (lv_sub hl [] rfl)
      · replace h := (if_neg c7).symm.trans h
        refine lv_aload_n (pc := 15) hx hb dX4_takesBack_15 rfl (lv_at hl 0 rfl) ?_
        refine tl_gM_12 (pc := 16) C hc4 hP lk2 dX4_takesBack_16 ?_
        refine lv_iload_n (pc := 19) hx hb dX4_takesBack_19 rfl (lv_at hl 1 rfl) ?_
        refine lv_aload_n (pc := 20) hx hb dX4_takesBack_20 rfl (lv_at hl 0 rfl) ?_
        refine tl_gM_22 (pc := 21) C hc4 hP lk3 dX4_takesBack_21 ?_
        refine lv_iload_n (pc := 24) hx hb dX4_takesBack_24 rfl (lv_at hl 1 rfl) ?_
        obtain ⟨g8, h⟩ := tl_gd h
        refine tl_ald (pc := 25) C hP (tl_a48 g) g8 dX4_takesBack_25 ?_
        obtain ⟨g9, h⟩ := tl_gd h
        obtain ⟨σ10, eσ10, h⟩ := tl_nm h
        refine tl_ast (pc := 26) C hP hS (tl_a43 g) g9 eσ10 dX4_takesBack_26 (fun H locs hP hS => ?_)
        obtain ⟨x11, ex11, h⟩ := tl_nm h
        refine lv_iinc (pc := 27) (v := x11) (lv' := [(1, .int x11), (0, .ref (tl_ad g 34))]) hx hb dX4_takesBack_27 hl (k := 1) rfl ex11 (by decide) rfl (fun ls hl => ?_)
        refine lv_goto (pc := 30) (tgt := 10) hx hb dX4_takesBack_30 (by decide) ?_
        exact ih σ10 x11 _ _ _ h hP hS (lv_sub hl [1, 0] rfl)
  exact hL10 1000 σ2 0 _ _ _ h hP hS (lv_sub hl [1, 0] rfl)
theorem caX4_takesBack {p : Program} {l : Launch} {e : Env} {R : Room} {s : State} {m : MethodId} {args : Array Value} {below : List Frame} {meth : Method} {c : Code} {H : Heap} {locs : List Loc} {Q : State → Prop} {cc : ByteArray} {pc : Nat} {ls : Array Slot} {rest : List Value} {g : tl_G} {σ : tl_St} {H0 : Heap} {nL : Nat} {own : String} {ret : Option FieldType} {index : Nat} (C : tl_C p s m meth c cc nL own ret g) {Ts : List Cond} (hts : ∀ w ∈ Ts, w.before args s = true) (hP : va_P g.1 vwCl (tl_W g σ) H) (hS : va_S (tl_A g) H0 H locs) {σo : tl_St} (h : fX4_takesBack σ = some σo) (hG : GoodIn Ts (wsV own index RX4 yX4_takesBack wsX4_takesBack)) (hR : 0 + 1 ≤ R.frames ∧ 8 + (2 + 11) + 0 ≤ R.locals) (hls : ls.size = nL) (hrm : (rest.map fun v => v.category).sum ≤ 8) (hdg : decode cc pc = .ok (.invokevirtual index, 3)) (kk : ∀ (H1 : Heap) (locs1 : List Loc), va_P g.1 vwCl (tl_W g σo) H1 → va_S (tl_A g) H0 H1 locs1 → W p l e R s m args below meth c H1 locs1 0 0 Q (F0 m (pc + 3) ls (rest))) : W p l e R s m args below meth c H locs 0 0 Q (F0 m pc ls (.ref (tl_ad g 34) :: rest)) :=
  tl_gov (tl_callV C hts hP (okX4_takesBack l g C.2.2.2.2.2.2.2 σ σo h) rfl rfl rfl (n := 0) (by decide +kernel) rfl (ci := 4) rfl (tl_kM g σ) hG hR hls rfl hrm hdg) hS kk
abbrev rX4_does : Room := { frames := 3, cells := 0, slots := 0, locals := 70 }
set_option maxHeartbeats 4000000 in
set_option maxRecDepth 100000 in
theorem okX4_does (l : Launch) (g : tl_G) (hI : tl_I g) (σ : tl_St) (a1 : Int32) (σo : tl_St) (h : fX4_does σ a1 = some σo) : Met l yX4_does wsX4_does rX4_does (va_Pc [.ref (tl_ad g 34), .int a1] (tl_Pre g σ)) (tl_Qv g σo) 0 0 (tl_A g) := by
  refine tl_enter (cc := cX4_does) (maxL := 5) (ret := none) (own := RX4) hI (by decide) rfl rfl (Nat.le_of_ble_eq_true rfl) ?_
  intro p e s m below meth c C hts H locs hP hS ls hl
  have hx := C.1
  have hb := C.2.1
  have hl : lv_has ls 5 [(0, .ref (tl_ad g 34)), (1, .int a1)] := hl
  have hc4 : ∀ w ∈ u_ws RX4 TX4 30, w.before [.ref (tl_ad g 34), .int a1].toArray s = true := fun w hw => hts w (List.mem_cons_of_mem _ (List.mem_append_right _ hw))
  have lk0 : (Cond.fieldLink RX4 174 "ThriftLockModel" "turns" "I").before [.ref (tl_ad g 34), .int a1].toArray s = true := hts _ (List.mem_cons_of_mem _ (List.mem_append_left _ (List.mem_append_left _ (List.mem_of_getElem? (i := 0) rfl))))
  have lk1 : (Cond.fieldLink RX4 90 "ThriftLockModel" "full" "Z").before [.ref (tl_ad g 34), .int a1].toArray s = true := hts _ (List.mem_cons_of_mem _ (List.mem_append_left _ (List.mem_append_left _ (List.mem_of_getElem? (i := 1) rfl))))
  have lk2 : (Cond.fieldLink RX4 53 "ThriftLockModel" "ledger" "[I").before [.ref (tl_ad g 34), .int a1].toArray s = true := hts _ (List.mem_cons_of_mem _ (List.mem_append_left _ (List.mem_append_left _ (List.mem_of_getElem? (i := 2) rfl))))
  have lk3 : (Cond.fieldLink RX4 56 "ThriftLockModel" "head" "I").before [.ref (tl_ad g 34), .int a1].toArray s = true := hts _ (List.mem_cons_of_mem _ (List.mem_append_left _ (List.mem_append_left _ (List.mem_of_getElem? (i := 3) rfl))))
  have lk4 : (Cond.fieldLink RX4 159 "ThriftLockModel" "without" "I").before [.ref (tl_ad g 34), .int a1].toArray s = true := hts _ (List.mem_cons_of_mem _ (List.mem_append_left _ (List.mem_append_left _ (List.mem_of_getElem? (i := 4) rfl))))
  have lk5 : (Cond.fieldLink RX4 162 "ThriftLockModel" "leaks" "I").before [.ref (tl_ad g 34), .int a1].toArray s = true := hts _ (List.mem_cons_of_mem _ (List.mem_append_left _ (List.mem_append_left _ (List.mem_of_getElem? (i := 5) rfl))))
  have lk6 : (Cond.fieldLink RX4 180 "ThriftLockModel" "drawnEver" "I").before [.ref (tl_ad g 34), .int a1].toArray s = true := hts _ (List.mem_cons_of_mem _ (List.mem_append_left _ (List.mem_append_left _ (List.mem_of_getElem? (i := 7) rfl))))
  have lk7 : (Cond.fieldLink RX4 183 "ThriftLockModel" "lostEver" "I").before [.ref (tl_ad g 34), .int a1].toArray s = true := hts _ (List.mem_cons_of_mem _ (List.mem_append_left _ (List.mem_append_left _ (List.mem_of_getElem? (i := 8) rfl))))
  have lk8 : (Cond.fieldLink RX4 186 "ThriftLockModel" "leakedEver" "I").before [.ref (tl_ad g 34), .int a1].toArray s = true := hts _ (List.mem_cons_of_mem _ (List.mem_append_left _ (List.mem_append_left _ (List.mem_of_getElem? (i := 9) rfl))))
  have lk9 : (Cond.fieldLink RX4 189 "ThriftLockModel" "turnsEver" "I").before [.ref (tl_ad g 34), .int a1].toArray s = true := hts _ (List.mem_cons_of_mem _ (List.mem_append_left _ (List.mem_append_left _ (List.mem_of_getElem? (i := 10) rfl))))
  have lk10 : (Cond.fieldLink RX4 47 "ThriftLockModel" "went" "[I").before [.ref (tl_ad g 34), .int a1].toArray s = true := hts _ (List.mem_cons_of_mem _ (List.mem_append_left _ (List.mem_append_left _ (List.mem_of_getElem? (i := 6) rfl))))
  unfold fX4_does at h
  refine lv_bipush (pc := 0) (v := 9) hx hb dX4_does_0 (by decide) ?_
  refine lv_aload_n (pc := 2) hx hb dX4_does_2 rfl (lv_at hl 0 rfl) ?_
  refine tl_gM_25 (pc := 3) C hc4 hP lk0 dX4_does_3 ?_
  refine lv_imul (pc := 6) hx hb dX4_does_6 ?_
  obtain ⟨x1, ex1, h⟩ := tl_nm h
  refine tl_ti ex1 ?_
  refine lv_istore_n (pc := 7) (lv' := [(2, .int x1), (0, .ref (tl_ad g 34)), (1, .int a1)]) hx hb dX4_does_7 rfl hl (by decide) rfl (fun ls hl => ?_)
  refine lv_aload_n (pc := 8) hx hb dX4_does_8 rfl (lv_at hl 1 rfl) ?_
  refine tl_gM_6 (pc := 9) C hc4 hP lk1 dX4_does_9 ?_
  obtain ⟨k3, ek3, h⟩ := tl_j1 h
  have hJ3 : ∀ (x2 : Int32) (H : Heap) (locs : List Loc) (ls : Array Slot), k3 x2 = some σo → va_P g.1 vwCl (tl_W g σ) H → va_S (tl_A g) s.heap H locs → lv_has ls 5 [(0, .ref (tl_ad g 34)), (1, .int a1), (2, .int x1)] → W p l e rX4_does s m [.ref (tl_ad g 34), .int a1].toArray below meth c H locs 0 0 (MQ below (tl_Qv g σo) [.ref (tl_ad g 34), .int a1].toArray s 0 0 (tl_A g)) (F0 m 20 ls [.int x2]) := by
    intro x2 H locs ls h hP hS hl
    replace h := (ek3 x2).trans h
    refine lv_istore_n (pc := 20) (lv' := [(3, .int x2), (0, .ref (tl_ad g 34)), (1, .int a1), (2, .int x1)]) hx hb dX4_does_20 rfl hl (by decide) rfl (fun ls hl => ?_)
    refine lv_aload_n (pc := 21) hx hb dX4_does_21 rfl (lv_at hl 1 rfl) ?_
    obtain ⟨σ4, eσ4, h⟩ := tl_o1s h
    refine caX4_moves (pc := 22) C hts hP hS eσ4 gX4_does_X4_moves ⟨Nat.le_of_ble_eq_true rfl, Nat.le_of_ble_eq_true rfl⟩ hl.1 (Nat.le_of_ble_eq_true rfl) dX4_does_22 (fun H locs hP hS => ?_)
    refine lv_aload_n (pc := 25) hx hb dX4_does_25 rfl (lv_at hl 1 rfl) ?_
    refine tl_gM_24 (pc := 26) C hc4 hP lk2 dX4_does_26 ?_
    refine lv_iload_n (pc := 29) hx hb dX4_does_29 rfl (lv_at hl 3 rfl) ?_
    refine lv_iload_n (pc := 30) hx hb dX4_does_30 rfl (lv_at hl 2 rfl) ?_
    obtain ⟨g5, h⟩ := tl_gd h
    obtain ⟨σ6, eσ6, h⟩ := tl_nm h
    refine tl_ast (pc := 31) C hP hS (tl_a49 g) g5 eσ6 dX4_does_31 (fun H locs hP hS => ?_)
    refine lv_aload_n (pc := 32) hx hb dX4_does_32 rfl (lv_at hl 1 rfl) ?_
    refine tl_gM_24 (pc := 33) C hc4 hP lk2 dX4_does_33 ?_
    refine lv_iload_n (pc := 36) hx hb dX4_does_36 rfl (lv_at hl 3 rfl) ?_
    refine lv_iconst (pc := 37) (v := 1) hx hb dX4_does_37 (by decide) ?_
    refine lv_iadd (pc := 38) hx hb dX4_does_38 ?_
    refine lv_iload_n (pc := 39) hx hb dX4_does_39 rfl (lv_at hl 0 rfl) ?_
    obtain ⟨k8, ek8, h⟩ := tl_j1 h
    have hJ8 : ∀ (x7 : Int32) (H : Heap) (locs : List Loc) (ls : Array Slot), k8 x7 = some σo → va_P g.1 vwCl (tl_W g σ6) H → va_S (tl_A g) s.heap H locs → lv_has ls 5 [(0, .ref (tl_ad g 34)), (2, .int x1), (3, .int x2)] → W p l e rX4_does s m [.ref (tl_ad g 34), .int a1].toArray below meth c H locs 0 0 (MQ below (tl_Qv g σo) [.ref (tl_ad g 34), .int a1].toArray s 0 0 (tl_A g)) (F0 m 48 ls [.int x7, .int (x1 + 1), .ref (tl_ad g 49)]) := by
      intro x7 H locs ls h hP hS hl
      replace h := (ek8 x7).trans h
      obtain ⟨g9, h⟩ := tl_gd h
      obtain ⟨σ10, eσ10, h⟩ := tl_nm h
      refine tl_ast (pc := 48) C hP hS (tl_a49 g) g9 eσ10 dX4_does_48 (fun H locs hP hS => ?_)
      refine lv_aload_n (pc := 49) hx hb dX4_does_49 rfl (lv_at hl 0 rfl) ?_
      refine tl_gM_24 (pc := 50) C hc4 hP lk2 dX4_does_50 ?_
      refine lv_iload_n (pc := 53) hx hb dX4_does_53 rfl (lv_at hl 1 rfl) ?_
      refine lv_iconst (pc := 54) (v := 2) hx hb dX4_does_54 (by decide) ?_
      refine lv_iadd (pc := 55) hx hb dX4_does_55 ?_
      refine lv_aload_n (pc := 56) hx hb dX4_does_56 rfl (lv_at hl 0 rfl) ?_
      refine tl_gM_5 (pc := 57) C hc4 hP lk3 dX4_does_57 ?_
      refine lv_aload_n (pc := 60) hx hb dX4_does_60 rfl (lv_at hl 0 rfl) ?_
      refine tl_gM_20 (pc := 61) C hc4 hP lk4 dX4_does_61 ?_
      refine lv_isub (pc := 64) hx hb dX4_does_64 ?_
      obtain ⟨g11, h⟩ := tl_gd h
      obtain ⟨σ12, eσ12, h⟩ := tl_nm h
      refine tl_ast (pc := 65) C hP hS (tl_a49 g) g11 eσ12 dX4_does_65 (fun H locs hP hS => ?_)
      refine lv_aload_n (pc := 66) hx hb dX4_does_66 rfl (lv_at hl 0 rfl) ?_
      refine tl_gM_24 (pc := 67) C hc4 hP lk2 dX4_does_67 ?_
      refine lv_iload_n (pc := 70) hx hb dX4_does_70 rfl (lv_at hl 1 rfl) ?_
      refine lv_iconst (pc := 71) (v := 3) hx hb dX4_does_71 (by decide) ?_
      refine lv_iadd (pc := 72) hx hb dX4_does_72 ?_
      refine lv_aload_n (pc := 73) hx hb dX4_does_73 rfl (lv_at hl 0 rfl) ?_
      refine tl_gM_20 (pc := 74) C hc4 hP lk4 dX4_does_74 ?_
      obtain ⟨g13, h⟩ := tl_gd h
      obtain ⟨σ14, eσ14, h⟩ := tl_nm h
      refine tl_ast (pc := 77) C hP hS (tl_a49 g) g13 eσ14 dX4_does_77 (fun H locs hP hS => ?_)
      refine lv_aload_n (pc := 78) hx hb dX4_does_78 rfl (lv_at hl 0 rfl) ?_
      refine tl_gM_24 (pc := 79) C hc4 hP lk2 dX4_does_79 ?_
      refine lv_iload_n (pc := 82) hx hb dX4_does_82 rfl (lv_at hl 1 rfl) ?_
      refine lv_iconst (pc := 83) (v := 4) hx hb dX4_does_83 (by decide) ?_
      refine lv_iadd (pc := 84) hx hb dX4_does_84 ?_
      refine lv_aload_n (pc := 85) hx hb dX4_does_85 rfl (lv_at hl 0 rfl) ?_
      refine tl_gM_21 (pc := 86) C hc4 hP lk5 dX4_does_86 ?_
      obtain ⟨g15, h⟩ := tl_gd h
      obtain ⟨σ16, eσ16, h⟩ := tl_nm h
      refine tl_ast (pc := 89) C hP hS (tl_a49 g) g15 eσ16 dX4_does_89 (fun H locs hP hS => ?_)
      refine lv_iconst (pc := 90) (v := 0) hx hb dX4_does_90 (by decide) ?_
      refine lv_istore (pc := 91) (lv' := [(4, .int 0), (0, .ref (tl_ad g 34)), (2, .int x1), (3, .int x2)]) hx hb dX4_does_91 hl (by decide) rfl (fun ls hl => ?_)
      obtain ⟨k18, ek18, h⟩ := tl_j1 h
      have hZ18 : ∀ (σ17 : tl_St) (H : Heap) (locs : List Loc) (ls : Array Slot), k18 σ17 = some σo → va_P g.1 vwCl (tl_W g σ17) H → va_S (tl_A g) s.heap H locs → lv_has ls 5 [(0, .ref (tl_ad g 34)), (3, .int x2)] → W p l e rX4_does s m [.ref (tl_ad g 34), .int a1].toArray below meth c H locs 0 0 (MQ below (tl_Qv g σo) [.ref (tl_ad g 34), .int a1].toArray s 0 0 (tl_A g)) (F0 m 123 ls []) := by
        intro σ17 H locs ls h hP hS hl
        replace h := (ek18 σ17).trans h
        refine lv_aload_n (pc := 123) hx hb dX4_does_123 rfl (lv_at hl 0 rfl) ?_
        refine lv_dup (pc := 124) hx hb dX4_does_124 rfl ?_
        refine tl_gM_26 (pc := 125) C hc4 hP lk6 dX4_does_125 ?_
        refine lv_iload_n (pc := 128) hx hb dX4_does_128 rfl (lv_at hl 1 rfl) ?_
        obtain ⟨k20, ek20, h⟩ := tl_j1 h
        have hJ20 : ∀ (x19 : Int32) (H : Heap) (locs : List Loc) (ls : Array Slot), k20 x19 = some σo → va_P g.1 vwCl (tl_W g σ17) H → va_S (tl_A g) s.heap H locs → lv_has ls 5 [(0, .ref (tl_ad g 34)), (3, .int x2)] → W p l e rX4_does s m [.ref (tl_ad g 34), .int a1].toArray below meth c H locs 0 0 (MQ below (tl_Qv g σo) [.ref (tl_ad g 34), .int a1].toArray s 0 0 (tl_A g)) (F0 m 140 ls [.int x19, .int (σ17 34 26), .ref (tl_ad g 34)]) := by
          intro x19 H locs ls h hP hS hl
          replace h := (ek20 x19).trans h
          refine lv_iadd (pc := 140) hx hb dX4_does_140 ?_
          obtain ⟨σ21, eσ21, h⟩ := tl_nm h
          refine tl_sM_26 (pc := 141) C hc4 hP hS eσ21 lk6 dX4_does_141 (fun H locs hP hS => ?_)
          refine lv_aload_n (pc := 144) hx hb dX4_does_144 rfl (lv_at hl 0 rfl) ?_
          refine lv_dup (pc := 145) hx hb dX4_does_145 rfl ?_
          refine tl_gM_27 (pc := 146) C hc4 hP lk7 dX4_does_146 ?_
          refine lv_iload_n (pc := 149) hx hb dX4_does_149 rfl (lv_at hl 1 rfl) ?_
          obtain ⟨k23, ek23, h⟩ := tl_j1 h
          have hJ23 : ∀ (x22 : Int32) (H : Heap) (locs : List Loc) (ls : Array Slot), k23 x22 = some σo → va_P g.1 vwCl (tl_W g σ21) H → va_S (tl_A g) s.heap H locs → lv_has ls 5 [(0, .ref (tl_ad g 34))] → W p l e rX4_does s m [.ref (tl_ad g 34), .int a1].toArray below meth c H locs 0 0 (MQ below (tl_Qv g σo) [.ref (tl_ad g 34), .int a1].toArray s 0 0 (tl_A g)) (F0 m 161 ls [.int x22, .int (σ21 34 27), .ref (tl_ad g 34)]) := by
            intro x22 H locs ls h hP hS hl
            replace h := (ek23 x22).trans h
            refine lv_iadd (pc := 161) hx hb dX4_does_161 ?_
            obtain ⟨σ24, eσ24, h⟩ := tl_nm h
            refine tl_sM_27 (pc := 162) C hc4 hP hS eσ24 lk7 dX4_does_162 (fun H locs hP hS => ?_)
            refine lv_aload_n (pc := 165) hx hb dX4_does_165 rfl (lv_at hl 0 rfl) ?_
            refine lv_dup (pc := 166) hx hb dX4_does_166 rfl ?_
            refine tl_gM_28 (pc := 167) C hc4 hP lk8 dX4_does_167 ?_
            refine lv_aload_n (pc := 170) hx hb dX4_does_170 rfl (lv_at hl 0 rfl) ?_
            refine tl_gM_21 (pc := 171) C hc4 hP lk5 dX4_does_171 ?_
            refine lv_iadd (pc := 174) hx hb dX4_does_174 ?_
            obtain ⟨σ25, eσ25, h⟩ := tl_nm h
            refine tl_sM_28 (pc := 175) C hc4 hP hS eσ25 lk8 dX4_does_175 (fun H locs hP hS => ?_)
            refine lv_aload_n (pc := 178) hx hb dX4_does_178 rfl (lv_at hl 0 rfl) ?_
            refine lv_dup (pc := 179) hx hb dX4_does_179 rfl ?_
            refine tl_gM_29 (pc := 180) C hc4 hP lk9 dX4_does_180 ?_
            refine lv_iconst (pc := 183) (v := 1) hx hb dX4_does_183 (by decide) ?_
            refine lv_iadd (pc := 184) hx hb dX4_does_184 ?_
            obtain ⟨σ26, eσ26, h⟩ := tl_nm h
            refine tl_sM_29 (pc := 185) C hc4 hP hS eσ26 lk9 dX4_does_185 (fun H locs hP hS => ?_)
            refine lv_aload_n (pc := 188) hx hb dX4_does_188 rfl (lv_at hl 0 rfl) ?_
            refine lv_dup (pc := 189) hx hb dX4_does_189 rfl ?_
            refine tl_gM_25 (pc := 190) C hc4 hP lk0 dX4_does_190 ?_
            refine lv_iconst (pc := 193) (v := 1) hx hb dX4_does_193 (by decide) ?_
            refine lv_iadd (pc := 194) hx hb dX4_does_194 ?_
            obtain ⟨σ27, eσ27, h⟩ := tl_nm h
            refine tl_sM_25 (pc := 195) C hc4 hP hS eσ27 lk0 dX4_does_195 (fun H locs hP hS => ?_)
            exact tl_Rvpw (pc := 198) C h hP hS dX4_does_198
          refine lv_if_eq (pc := 150) (tgt := 157) hx hb dX4_does_150 (by decide) (fun c28 => ?_) (fun c28 => ?_)
          · replace h := (if_pos c28).symm.trans h
            refine lv_aload_n (pc := 157) hx hb dX4_does_157 rfl (lv_at hl 0 rfl) ?_
            refine tl_gM_20 (pc := 158) C hc4 hP lk4 dX4_does_158 ?_
            exact hJ23 (σ21 34 20) _ _ _ h hP hS (lv_sub hl [0] rfl)
          · replace h := (if_neg c28).symm.trans h
            refine lv_iconst (pc := 153) (v := 0) hx hb dX4_does_153 (by decide) ?_
            refine lv_goto (pc := 154) (tgt := 161) hx hb dX4_does_154 (by decide) ?_
            exact hJ23 0 _ _ _ h hP hS (lv_sub hl [0] rfl)
        refine lv_if_eq (pc := 129) (tgt := 139) hx hb dX4_does_129 (by decide) (fun c29 => ?_) (fun c29 => ?_)
        · replace h := (if_pos c29).symm.trans h
          refine lv_iconst (pc := 139) (v := 0) hx hb dX4_does_139 (by decide) ?_
          exact hJ20 0 _ _ _ h hP hS (lv_sub hl [0, 1] rfl)
        · replace h := (if_neg c29).symm.trans h
          refine lv_aload_n (pc := 132) hx hb dX4_does_132 rfl (lv_at hl 0 rfl) ?_
          refine tl_gM_20 (pc := 133) C hc4 hP lk4 dX4_does_133 ?_
          refine lv_goto (pc := 136) (tgt := 140) hx hb dX4_does_136 (by decide) ?_
          exact hJ20 (σ17 34 20) _ _ _ h hP hS (lv_sub hl [0, 1] rfl)
      have hL93 : ∀ (n : Nat) (σ30 : tl_St) (x31 : Int32) (H : Heap) (locs : List Loc) (ls : Array Slot), fX4_does_L93 x1 k18 n σ30 x31 = some σo → va_P g.1 vwCl (tl_W g σ30) H → va_S (tl_A g) s.heap H locs → lv_has ls 5 [(0, .ref (tl_ad g 34)), (2, .int x1), (3, .int x2), (4, .int x31)] → W p l e rX4_does s m [.ref (tl_ad g 34), .int a1].toArray below meth c H locs 0 0 (MQ below (tl_Qv g σo) [.ref (tl_ad g 34), .int a1].toArray s 0 0 (tl_A g)) (F0 m 93 ls []) := by
        intro n
        induction n with
        | zero =>
          intro σ30 x31 H locs ls h hP hS hl
          rw [fX4_does_L93] at h
          cases h
        | succ n ih =>
          intro σ30 x31 H locs ls h hP hS hl
          rw [fX4_does_L93] at h
          refine lv_iload (pc := 93) hx hb dX4_does_93 (lv_at hl 3 rfl) ?_
          refine lv_iconst (pc := 95) (v := 4) hx hb dX4_does_95 (by decide) ?_
          refine lv_icmp_ge (pc := 96) (tgt := 123) hx hb dX4_does_96 (by decide) (fun c32 => ?_) (fun c32 => ?_)
          · replace h := (if_pos c32).symm.trans h
            exact hZ18 σ30 _ _ _ h hP hS (lv_sub hl [0, 2] rfl)
          · replace h := (if_neg c32).symm.trans h
            refine lv_aload_n (pc := 99) hx hb dX4_does_99 rfl (lv_at hl 0 rfl) ?_
            refine tl_gM_24 (pc := 100) C hc4 hP lk2 dX4_does_100 ?_
            refine lv_iload_n (pc := 103) hx hb dX4_does_103 rfl (lv_at hl 1 rfl) ?_
            refine lv_iconst (pc := 104) (v := 5) hx hb dX4_does_104 (by decide) ?_
            refine lv_iadd (pc := 105) hx hb dX4_does_105 ?_
            refine lv_iload (pc := 106) hx hb dX4_does_106 (lv_at hl 3 rfl) ?_
            refine lv_iadd (pc := 108) hx hb dX4_does_108 ?_
            refine lv_aload_n (pc := 109) hx hb dX4_does_109 rfl (lv_at hl 0 rfl) ?_
            refine tl_gM_19 (pc := 110) C hc4 hP lk10 dX4_does_110 ?_
            refine lv_iload (pc := 113) hx hb dX4_does_113 (lv_at hl 3 rfl) ?_
            obtain ⟨g33, h⟩ := tl_gd h
            refine tl_ald (pc := 115) C hP (tl_a47 g) g33 dX4_does_115 ?_
            obtain ⟨g34, h⟩ := tl_gd h
            obtain ⟨σ35, eσ35, h⟩ := tl_nm h
            refine tl_ast (pc := 116) C hP hS (tl_a49 g) g34 eσ35 dX4_does_116 (fun H locs hP hS => ?_)
            obtain ⟨x36, ex36, h⟩ := tl_nm h
            refine lv_iinc (pc := 117) (v := x36) (lv' := [(4, .int x36), (0, .ref (tl_ad g 34)), (2, .int x1), (3, .int x2)]) hx hb dX4_does_117 hl (k := 3) rfl ex36 (by decide) rfl (fun ls hl => ?_)
            refine lv_goto (pc := 120) (tgt := 93) hx hb dX4_does_120 (by decide) ?_
            exact ih σ35 x36 _ _ _ h hP hS (lv_sub hl [1, 2, 3, 0] rfl)
      exact hL93 1000 σ16 0 _ _ _ h hP hS (lv_sub hl [1, 2, 3, 0] rfl)
    refine lv_if_eq (pc := 40) (tgt := 47) hx hb dX4_does_40 (by decide) (fun c37 => ?_) (fun c37 => ?_)
    · replace h := (if_pos c37).symm.trans h
      refine lv_iconst (pc := 47) (v := 0) hx hb dX4_does_47 (by decide) ?_
      exact hJ8 0 _ _ _ h hP hS (lv_sub hl [1, 3, 0] rfl)
    · replace h := (if_neg c37).symm.trans h
      refine lv_iconst (pc := 43) (v := 1) hx hb dX4_does_43 (by decide) ?_
      refine lv_goto (pc := 44) (tgt := 48) hx hb dX4_does_44 (by decide) ?_
      exact hJ8 1 _ _ _ h hP hS (lv_sub hl [1, 3, 0] rfl)
  refine lv_if_ne (pc := 12) (tgt := 19) hx hb dX4_does_12 (by decide) (fun c38 => ?_) (fun c38 => ?_)
  · replace h := (if_neg c38).symm.trans h
    refine lv_iconst (pc := 19) (v := 0) hx hb dX4_does_19 (by decide) ?_
    exact hJ3 0 _ _ _ h hP hS (lv_sub hl [1, 2, 0] rfl)
  · replace h := (if_pos c38).symm.trans h
    refine lv_iconst (pc := 15) (v := 1) hx hb dX4_does_15 (by decide) ?_
    refine lv_goto (pc := 16) (tgt := 20) hx hb dX4_does_16 (by decide) ?_
    exact hJ3 1 _ _ _ h hP hS (lv_sub hl [1, 2, 0] rfl)
theorem caX4_does {p : Program} {l : Launch} {e : Env} {R : Room} {s : State} {m : MethodId} {args : Array Value} {below : List Frame} {meth : Method} {c : Code} {H : Heap} {locs : List Loc} {Q : State → Prop} {cc : ByteArray} {pc : Nat} {ls : Array Slot} {rest : List Value} {g : tl_G} {σ : tl_St} {H0 : Heap} {nL : Nat} {own : String} {ret : Option FieldType} {index : Nat} (C : tl_C p s m meth c cc nL own ret g) {Ts : List Cond} (hts : ∀ w ∈ Ts, w.before args s = true) (hP : va_P g.1 vwCl (tl_W g σ) H) (hS : va_S (tl_A g) H0 H locs) {a1 : Int32} {σo : tl_St} (h : fX4_does σ a1 = some σo) (hG : GoodIn Ts (wsV own index RX4 yX4_does wsX4_does)) (hR : 3 + 1 ≤ R.frames ∧ 8 + (5 + 11) + 70 ≤ R.locals) (hls : ls.size = nL) (hrm : (rest.map fun v => v.category).sum ≤ 8) (hdg : decode cc pc = .ok (.invokevirtual index, 3)) (kk : ∀ (H1 : Heap) (locs1 : List Loc), va_P g.1 vwCl (tl_W g σo) H1 → va_S (tl_A g) H0 H1 locs1 → W p l e R s m args below meth c H1 locs1 0 0 Q (F0 m (pc + 3) ls (rest))) : W p l e R s m args below meth c H locs 0 0 Q (F0 m pc ls (.int a1 :: .ref (tl_ad g 34) :: rest)) :=
  tl_gov (tl_callV C hts hP (okX4_does l g C.2.2.2.2.2.2.2 σ a1 σo h) rfl rfl rfl (n := 1) (by decide +kernel) rfl (ci := 4) rfl (tl_kM g σ) hG hR hls rfl hrm hdg) hS kk
