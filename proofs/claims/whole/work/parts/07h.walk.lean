abbrev rX4_serve : Room := { frames := 4, cells := 0, slots := 0, locals := 94 }
set_option maxHeartbeats 4000000 in
set_option maxRecDepth 100000 in
theorem okX4_serve (l : Launch) (g : tl_G) (hI : tl_I g) (σ : tl_St) (ro : Int32) (σo : tl_St) (h : fX4_serve σ = some (ro, σo)) : Met l yX4_serve wsX4_serve rX4_serve (va_Pc [.ref (tl_ad g 34)] (tl_Pre g σ)) (tl_Qi g ro σo) 0 0 (tl_A g) := by
  refine tl_enter (cc := cX4_serve) (maxL := 2) (ret := (some .int)) (own := RX4) hI (by decide) rfl rfl (Nat.le_of_ble_eq_true rfl) ?_
  intro p e s m below meth c C hts H locs hP hS ls hl
  have hx := C.1
  have hb := C.2.1
  have hl : lv_has ls 2 [(0, .ref (tl_ad g 34))] := hl
  have hc4 : ∀ w ∈ u_ws RX4 TX4 30, w.before [.ref (tl_ad g 34)].toArray s = true := fun w hw => hts w (List.mem_cons_of_mem _ (List.mem_append_right _ hw))
  have lk0 : (Cond.fieldLink RX4 174 "ThriftLockModel" "turns" "I").before [.ref (tl_ad g 34)].toArray s = true := hts _ (List.mem_cons_of_mem _ (List.mem_append_left _ (List.mem_append_left _ (List.mem_of_getElem? (i := 0) rfl))))
  have lk1 : (Cond.fieldLink RX4 37 "ThriftLockModel" "wayOf" "[I").before [.ref (tl_ad g 34)].toArray s = true := hts _ (List.mem_cons_of_mem _ (List.mem_append_left _ (List.mem_append_left _ (List.mem_of_getElem? (i := 1) rfl))))
  have lk2 : (Cond.fieldLink RX4 40 "ThriftLockModel" "isWaiting" "[Z").before [.ref (tl_ad g 34)].toArray s = true := hts _ (List.mem_cons_of_mem _ (List.mem_append_left _ (List.mem_append_left _ (List.mem_of_getElem? (i := 2) rfl))))
  unfold fX4_serve at h
  refine lv_aload_n (pc := 0) hx hb dX4_serve_0 rfl (lv_at hl 0 rfl) ?_
  obtain ⟨r1, er1, h⟩ := tl_o1s h
  refine caX4_nextBoat (pc := 1) C hts hP hS er1 gX4_serve_X4_nextBoat ⟨Nat.le_of_ble_eq_true rfl, Nat.le_of_ble_eq_true rfl⟩ hl.1 (Nat.le_of_ble_eq_true rfl) dX4_serve_1 (fun H locs hP hS => ?_)
  refine lv_istore_n (pc := 4) (lv' := [(1, .int r1), (0, .ref (tl_ad g 34))]) hx hb dX4_serve_4 rfl hl (by decide) rfl (fun ls hl => ?_)
  refine lv_iload_n (pc := 5) hx hb dX4_serve_5 rfl (lv_at hl 0 rfl) ?_
  refine lv_iconst (pc := 6) (v := (-1)) hx hb dX4_serve_6 (by decide) ?_
  refine lv_icmp_ne (pc := 7) (tgt := 13) hx hb dX4_serve_7 (by decide) (fun c2 => ?_) (fun c2 => ?_)
  · replace h := (if_neg c2).symm.trans h
    refine lv_aload_n (pc := 13) hx hb dX4_serve_13 rfl (lv_at hl 1 rfl) ?_
    refine tl_gM_25 (pc := 14) C hc4 hP lk0 dX4_serve_14 ?_
    refine lv_aload_n (pc := 17) hx hb dX4_serve_17 rfl (lv_at hl 1 rfl) ?_
    refine lv_iconst (pc := 18) (v := 1) hx hb dX4_serve_18 (by decide) ?_
    obtain ⟨r3, er3, h⟩ := tl_o1s h
    refine caX4_nextBy (pc := 19) C hts hP hS er3 gX4_serve_X4_nextBy ⟨Nat.le_of_ble_eq_true rfl, Nat.le_of_ble_eq_true rfl⟩ hl.1 (Nat.le_of_ble_eq_true rfl) dX4_serve_19 (fun H locs hP hS => ?_)
    refine lv_iadd (pc := 22) hx hb dX4_serve_22 ?_
    refine lv_bipush (pc := 23) (v := 60) hx hb dX4_serve_23 (by decide) ?_
    refine lv_icmp_le (pc := 25) (tgt := 31) hx hb dX4_serve_25 (by decide) (fun c4 => ?_) (fun c4 => ?_)
    · replace h := (if_pos c4).symm.trans h
      refine lv_aload_n (pc := 31) hx hb dX4_serve_31 rfl (lv_at hl 1 rfl) ?_
      refine lv_aload_n (pc := 32) hx hb dX4_serve_32 rfl (lv_at hl 1 rfl) ?_
      refine tl_gM_15 (pc := 33) C hc4 hP lk1 dX4_serve_33 ?_
      refine lv_iload_n (pc := 36) hx hb dX4_serve_36 rfl (lv_at hl 0 rfl) ?_
      obtain ⟨g5, h⟩ := tl_gd h
      refine tl_ald (pc := 37) C hP (tl_a44 g) g5 dX4_serve_37 ?_
      obtain ⟨r6, er6, h⟩ := tl_nm h
      refine caX4_isSide (pc := 38) C hts hP hS er6 gX4_serve_X4_isSide ⟨Nat.le_of_ble_eq_true rfl, Nat.le_of_ble_eq_true rfl⟩ hl.1 (Nat.le_of_ble_eq_true rfl) dX4_serve_38 (fun H locs hP hS => ?_)
      obtain ⟨k8, ek8, h⟩ := tl_j1 h
      have hJ8 : ∀ (σ7 : tl_St) (H : Heap) (locs : List Loc) (ls : Array Slot), k8 σ7 = some (ro, σo) → va_P g.1 vwCl (tl_W g σ7) H → va_S (tl_A g) s.heap H locs → lv_has ls 2 [(0, .ref (tl_ad g 34)), (1, .int r1)] → W p l e rX4_serve s m [.ref (tl_ad g 34)].toArray below meth c H locs 0 0 (MQ below (tl_Qi g ro σo) [.ref (tl_ad g 34)].toArray s 0 0 (tl_A g)) (F0 m 49 ls []) := by
        intro σ7 H locs ls h hP hS hl
        replace h := (ek8 σ7).trans h
        refine lv_aload_n (pc := 49) hx hb dX4_serve_49 rfl (lv_at hl 0 rfl) ?_
        refine tl_gM_16 (pc := 50) C hc4 hP lk2 dX4_serve_50 ?_
        refine lv_iload_n (pc := 53) hx hb dX4_serve_53 rfl (lv_at hl 1 rfl) ?_
        refine lv_iconst (pc := 54) (v := 0) hx hb dX4_serve_54 (by decide) ?_
        obtain ⟨g9, h⟩ := tl_gd h
        obtain ⟨σ10, eσ10, h⟩ := tl_nm h
        refine tl_zast (pc := 55) C hP hS g9 (Or.inl rfl) eσ10 dX4_serve_55 (fun H locs hP hS => ?_)
        refine lv_aload_n (pc := 56) hx hb dX4_serve_56 rfl (lv_at hl 0 rfl) ?_
        refine lv_iload_n (pc := 57) hx hb dX4_serve_57 rfl (lv_at hl 1 rfl) ?_
        obtain ⟨σ11, eσ11, h⟩ := tl_o1s h
        refine caX4_does (pc := 58) C hts hP hS eσ11 gX4_serve_X4_does ⟨Nat.le_of_ble_eq_true rfl, Nat.le_of_ble_eq_true rfl⟩ hl.1 (Nat.le_of_ble_eq_true rfl) dX4_serve_58 (fun H locs hP hS => ?_)
        refine lv_iload_n (pc := 61) hx hb dX4_serve_61 rfl (lv_at hl 1 rfl) ?_
        exact tl_Ripw (pc := 62) C h hP hS dX4_serve_62
      refine lv_if_ne (pc := 41) (tgt := 49) hx hb dX4_serve_41 (by decide) (fun c12 => ?_) (fun c12 => ?_)
      · replace h := (if_neg c12).symm.trans h
        exact hJ8 σ _ _ _ h hP hS (lv_sub hl [1, 0] rfl)
      · replace h := (if_pos c12).symm.trans h
        refine lv_aload_n (pc := 44) hx hb dX4_serve_44 rfl (lv_at hl 1 rfl) ?_
        refine lv_iconst (pc := 45) (v := (-1)) hx hb dX4_serve_45 (by decide) ?_
        obtain ⟨σ13, eσ13, h⟩ := tl_o1s h
        refine caX4_does (pc := 46) C hts hP hS eσ13 gX4_serve_X4_does ⟨Nat.le_of_ble_eq_true rfl, Nat.le_of_ble_eq_true rfl⟩ hl.1 (Nat.le_of_ble_eq_true rfl) dX4_serve_46 (fun H locs hP hS => ?_)
        exact hJ8 σ13 _ _ _ h hP hS (lv_sub hl [1, 0] rfl)
    · replace h := (if_neg c4).symm.trans h
      refine lv_bipush (pc := 28) (v := (-4)) hx hb dX4_serve_28 (by decide) ?_
      exact tl_Ripw (pc := 30) C h hP hS dX4_serve_30
  · replace h := (if_pos c2).symm.trans h
    refine lv_bipush (pc := 10) (v := (-3)) hx hb dX4_serve_10 (by decide) ?_
    exact tl_Ripw (pc := 12) C h hP hS dX4_serve_12
theorem caX4_serve {p : Program} {l : Launch} {e : Env} {R : Room} {s : State} {m : MethodId} {args : Array Value} {below : List Frame} {meth : Method} {c : Code} {H : Heap} {locs : List Loc} {Q : State → Prop} {cc : ByteArray} {pc : Nat} {ls : Array Slot} {rest : List Value} {g : tl_G} {σ : tl_St} {H0 : Heap} {nL : Nat} {own : String} {ret : Option FieldType} {index : Nat} (C : tl_C p s m meth c cc nL own ret g) {Ts : List Cond} (hts : ∀ w ∈ Ts, w.before args s = true) (hP : va_P g.1 vwCl (tl_W g σ) H) (hS : va_S (tl_A g) H0 H locs) {ro : Int32} {σo : tl_St} (h : fX4_serve σ = some (ro, σo)) (hG : GoodIn Ts (wsV own index RX4 yX4_serve wsX4_serve)) (hR : 4 + 1 ≤ R.frames ∧ 8 + (2 + 11) + 94 ≤ R.locals) (hls : ls.size = nL) (hrm : (rest.map fun v => v.category).sum ≤ 8) (hdg : decode cc pc = .ok (.invokevirtual index, 3)) (kk : ∀ (H1 : Heap) (locs1 : List Loc), va_P g.1 vwCl (tl_W g σo) H1 → va_S (tl_A g) H0 H1 locs1 → W p l e R s m args below meth c H1 locs1 0 0 Q (F0 m (pc + 3) ls (.int ro :: rest))) : W p l e R s m args below meth c H locs 0 0 Q (F0 m pc ls (.ref (tl_ad g 34) :: rest)) :=
  tl_goi (tl_callV C hts hP (okX4_serve l g C.2.2.2.2.2.2.2 σ ro σo h) rfl rfl rfl (n := 0) (by decide +kernel) rfl (ci := 4) rfl (tl_kM g σ) hG hR hls rfl hrm hdg) hS kk
abbrev rX4_turn : Room := { frames := 4, cells := 0, slots := 0, locals := 94 }
set_option maxHeartbeats 4000000 in
set_option maxRecDepth 100000 in
theorem okX4_turn (l : Launch) (g : tl_G) (hI : tl_I g) (σ : tl_St) (ro : Int32) (σo : tl_St) (h : fX4_turn σ = some (ro, σo)) : Met l yX4_turn wsX4_turn rX4_turn (va_Pc [.ref (tl_ad g 34)] (tl_Pre g σ)) (tl_Qi g ro σo) 0 0 (tl_A g) := by
  refine tl_enter (cc := cX4_turn) (maxL := 1) (ret := (some .int)) (own := RX4) hI (by decide) rfl rfl (Nat.le_of_ble_eq_true rfl) ?_
  intro p e s m below meth c C hts H locs hP hS ls hl
  have hx := C.1
  have hb := C.2.1
  have hl : lv_has ls 1 [(0, .ref (tl_ad g 34))] := hl
  have hc4 : ∀ w ∈ u_ws RX4 TX4 30, w.before [.ref (tl_ad g 34)].toArray s = true := fun w hw => hts w (List.mem_cons_of_mem _ (List.mem_append_right _ hw))
  have lk0 : (Cond.fieldLink RX4 174 "ThriftLockModel" "turns" "I").before [.ref (tl_ad g 34)].toArray s = true := hts _ (List.mem_cons_of_mem _ (List.mem_append_left _ (List.mem_append_left _ (List.mem_of_getElem? (i := 0) rfl))))
  have lk1 : (Cond.fieldLink RX4 159 "ThriftLockModel" "without" "I").before [.ref (tl_ad g 34)].toArray s = true := hts _ (List.mem_cons_of_mem _ (List.mem_append_left _ (List.mem_append_left _ (List.mem_of_getElem? (i := 1) rfl))))
  unfold fX4_turn at h
  refine lv_aload_n (pc := 0) hx hb dX4_turn_0 rfl (lv_at hl 0 rfl) ?_
  refine tl_gM_25 (pc := 1) C hc4 hP lk0 dX4_turn_1 ?_
  refine lv_bipush (pc := 4) (v := 60) hx hb dX4_turn_4 (by decide) ?_
  refine lv_icmp_ne (pc := 6) (tgt := 12) hx hb dX4_turn_6 (by decide) (fun c1 => ?_) (fun c1 => ?_)
  · replace h := (if_neg c1).symm.trans h
    refine lv_aload_n (pc := 12) hx hb dX4_turn_12 rfl (lv_at hl 0 rfl) ?_
    refine lv_iconst (pc := 13) (v := (-1)) hx hb dX4_turn_13 (by decide) ?_
    obtain ⟨σ2, eσ2, h⟩ := tl_o1s h
    refine caX4_does (pc := 14) C hts hP hS eσ2 gX4_turn_X4_does ⟨Nat.le_of_ble_eq_true rfl, Nat.le_of_ble_eq_true rfl⟩ hl.1 (Nat.le_of_ble_eq_true rfl) dX4_turn_14 (fun H locs hP hS => ?_)
    refine lv_aload_n (pc := 17) hx hb dX4_turn_17 rfl (lv_at hl 0 rfl) ?_
    refine tl_gM_20 (pc := 18) C hc4 hP lk1 dX4_turn_18 ?_
    exact tl_Ripw (pc := 21) C h hP hS dX4_turn_21
  · replace h := (if_pos c1).symm.trans h
    refine lv_bipush (pc := 9) (v := (-4)) hx hb dX4_turn_9 (by decide) ?_
    exact tl_Ripw (pc := 11) C h hP hS dX4_turn_11
theorem caX4_turn {p : Program} {l : Launch} {e : Env} {R : Room} {s : State} {m : MethodId} {args : Array Value} {below : List Frame} {meth : Method} {c : Code} {H : Heap} {locs : List Loc} {Q : State → Prop} {cc : ByteArray} {pc : Nat} {ls : Array Slot} {rest : List Value} {g : tl_G} {σ : tl_St} {H0 : Heap} {nL : Nat} {own : String} {ret : Option FieldType} {index : Nat} (C : tl_C p s m meth c cc nL own ret g) {Ts : List Cond} (hts : ∀ w ∈ Ts, w.before args s = true) (hP : va_P g.1 vwCl (tl_W g σ) H) (hS : va_S (tl_A g) H0 H locs) {ro : Int32} {σo : tl_St} (h : fX4_turn σ = some (ro, σo)) (hG : GoodIn Ts (wsV own index RX4 yX4_turn wsX4_turn)) (hR : 4 + 1 ≤ R.frames ∧ 8 + (1 + 11) + 94 ≤ R.locals) (hls : ls.size = nL) (hrm : (rest.map fun v => v.category).sum ≤ 8) (hdg : decode cc pc = .ok (.invokevirtual index, 3)) (kk : ∀ (H1 : Heap) (locs1 : List Loc), va_P g.1 vwCl (tl_W g σo) H1 → va_S (tl_A g) H0 H1 locs1 → W p l e R s m args below meth c H1 locs1 0 0 Q (F0 m (pc + 3) ls (.int ro :: rest))) : W p l e R s m args below meth c H locs 0 0 Q (F0 m pc ls (.ref (tl_ad g 34) :: rest)) :=
  tl_goi (tl_callV C hts hP (okX4_turn l g C.2.2.2.2.2.2.2 σ ro σo h) rfl rfl rfl (n := 0) (by decide +kernel) rfl (ci := 4) rfl (tl_kM g σ) hG hR hls rfl hrm hdg) hS kk
abbrev rX4_ledger : Room := { frames := 1, cells := 0, slots := 0, locals := 25 }
set_option maxHeartbeats 4000000 in
set_option maxRecDepth 100000 in
theorem okX4_ledger (l : Launch) (g : tl_G) (hI : tl_I g) (σ : tl_St) (a1 : Int32) (a2 : Int32) (ro : Int32) (h : fX4_ledger σ a1 a2 = some ro) : Met l yX4_ledger wsX4_ledger rX4_ledger (va_Pc [.ref (tl_ad g 34), .int a1, .int a2] (tl_Pre g σ)) (tl_Qi g ro σ) 0 0 (tl_A g) := by
  refine tl_enter (cc := cX4_ledger) (maxL := 3) (ret := (some .int)) (own := RX4) hI (by decide) rfl rfl (Nat.le_of_ble_eq_true rfl) ?_
  intro p e s m below meth c C hts H locs hP hS ls hl
  have hx := C.1
  have hb := C.2.1
  have hl : lv_has ls 3 [(0, .ref (tl_ad g 34)), (1, .int a1), (2, .int a2)] := hl
  have hc4 : ∀ w ∈ u_ws RX4 TX4 30, w.before [.ref (tl_ad g 34), .int a1, .int a2].toArray s = true := fun w hw => hts w (List.mem_cons_of_mem _ (List.mem_append_right _ hw))
  have lk0 : (Cond.fieldLink RX4 174 "ThriftLockModel" "turns" "I").before [.ref (tl_ad g 34), .int a1, .int a2].toArray s = true := hts _ (List.mem_cons_of_mem _ (List.mem_append_left _ (List.mem_of_getElem? (i := 0) rfl)))
  have lk1 : (Cond.constantLong RX4 196 (8)).before [.ref (tl_ad g 34), .int a1, .int a2].toArray s = true := hts _ (List.mem_cons_of_mem _ (List.mem_append_left _ (List.mem_of_getElem? (i := 1) rfl)))
  have lk2 : (Cond.fieldLink RX4 53 "ThriftLockModel" "ledger" "[I").before [.ref (tl_ad g 34), .int a1, .int a2].toArray s = true := hts _ (List.mem_cons_of_mem _ (List.mem_append_left _ (List.mem_of_getElem? (i := 2) rfl)))
  unfold fX4_ledger at h
  refine lv_iload_n (pc := 0) hx hb dX4_ledger_0 rfl (lv_at hl 1 rfl) ?_
  refine lv_i2l (pc := 1) hx hb dX4_ledger_1 rfl ?_
  refine lv_lconst (pc := 2) (v := 0) hx hb dX4_ledger_2 (by decide) ?_
  refine lv_aload_n (pc := 3) hx hb dX4_ledger_3 rfl (lv_at hl 0 rfl) ?_
  refine tl_gM_25 (pc := 4) C hc4 hP lk0 dX4_ledger_4 ?_
  refine lv_iconst (pc := 7) (v := 1) hx hb dX4_ledger_7 (by decide) ?_
  refine lv_isub (pc := 8) hx hb dX4_ledger_8 ?_
  refine lv_i2l (pc := 9) hx hb dX4_ledger_9 rfl ?_
  obtain ⟨r1, er1, h⟩ := tl_nm h
  refine caX4_in (pc := 10) C hts hP hS er1 gX4_ledger_X4_in ⟨Nat.le_of_ble_eq_true rfl, Nat.le_of_ble_eq_true rfl⟩ hl.1 (Nat.le_of_ble_eq_true rfl) dX4_ledger_10 (fun H locs hP hS => ?_)
  obtain ⟨k2, ek2, h⟩ := tl_j0 h
  have hJ2 : ∀ (H : Heap) (locs : List Loc) (ls : Array Slot), k2 = some ro → va_P g.1 vwCl (tl_W g σ) H → va_S (tl_A g) s.heap H locs → lv_has ls 3 [] → W p l e rX4_ledger s m [.ref (tl_ad g 34), .int a1, .int a2].toArray below meth c H locs 0 0 (MQ below (tl_Qi g ro σ) [.ref (tl_ad g 34), .int a1, .int a2].toArray s 0 0 (tl_A g)) (F0 m 42 ls []) := by
    intro H locs ls h hP hS hl
    replace h := ek2.trans h
    refine lv_bipush (pc := 42) (v := (-2)) hx hb dX4_ledger_42 (by decide) ?_
    exact tl_Ripr (pc := 44) C h hP hS dX4_ledger_44
  refine lv_if_eq (pc := 13) (tgt := 42) hx hb dX4_ledger_13 (by decide) (fun c3 => ?_) (fun c3 => ?_)
  · replace h := (if_pos c3).symm.trans h
    exact hJ2 _ _ _ h hP hS (lv_sub hl [] rfl)
  · replace h := (if_neg c3).symm.trans h
    refine lv_iload_n (pc := 16) hx hb dX4_ledger_16 rfl (lv_at hl 2 rfl) ?_
    refine lv_i2l (pc := 17) hx hb dX4_ledger_17 rfl ?_
    refine lv_lconst (pc := 18) (v := 0) hx hb dX4_ledger_18 (by decide) ?_
    refine lv_ldc2 (pc := 19) (v := 8) hx hb C.2.2.2.1 lk1 dX4_ledger_19 ?_
    obtain ⟨r4, er4, h⟩ := tl_nm h
    refine caX4_in (pc := 22) C hts hP hS er4 gX4_ledger_X4_in ⟨Nat.le_of_ble_eq_true rfl, Nat.le_of_ble_eq_true rfl⟩ hl.1 (Nat.le_of_ble_eq_true rfl) dX4_ledger_22 (fun H locs hP hS => ?_)
    refine lv_if_eq (pc := 25) (tgt := 42) hx hb dX4_ledger_25 (by decide) (fun c5 => ?_) (fun c5 => ?_)
    · replace h := (if_pos c5).symm.trans h
      exact hJ2 _ _ _ h hP hS (lv_sub hl [] rfl)
    · replace h := (if_neg c5).symm.trans h
      refine lv_aload_n (pc := 28) hx hb dX4_ledger_28 rfl (lv_at hl 0 rfl) ?_
      refine tl_gM_24 (pc := 29) C hc4 hP lk2 dX4_ledger_29 ?_
      refine lv_bipush (pc := 32) (v := 9) hx hb dX4_ledger_32 (by decide) ?_
      refine lv_iload_n (pc := 34) hx hb dX4_ledger_34 rfl (lv_at hl 1 rfl) ?_
      refine lv_imul (pc := 35) hx hb dX4_ledger_35 ?_
      refine lv_iload_n (pc := 36) hx hb dX4_ledger_36 rfl (lv_at hl 2 rfl) ?_
      refine lv_iadd (pc := 37) hx hb dX4_ledger_37 ?_
      obtain ⟨g6, h⟩ := tl_gd h
      refine tl_ald (pc := 38) C hP (tl_a49 g) g6 dX4_ledger_38 ?_
      refine lv_goto (pc := 39) (tgt := 44) hx hb dX4_ledger_39 (by decide) ?_
      exact tl_Ripr (pc := 44) C h hP hS dX4_ledger_44
theorem caX4_ledger {p : Program} {l : Launch} {e : Env} {R : Room} {s : State} {m : MethodId} {args : Array Value} {below : List Frame} {meth : Method} {c : Code} {H : Heap} {locs : List Loc} {Q : State → Prop} {cc : ByteArray} {pc : Nat} {ls : Array Slot} {rest : List Value} {g : tl_G} {σ : tl_St} {H0 : Heap} {nL : Nat} {own : String} {ret : Option FieldType} {index : Nat} (C : tl_C p s m meth c cc nL own ret g) {Ts : List Cond} (hts : ∀ w ∈ Ts, w.before args s = true) (hP : va_P g.1 vwCl (tl_W g σ) H) (hS : va_S (tl_A g) H0 H locs) {a1 : Int32} {a2 : Int32} {ro : Int32} (h : fX4_ledger σ a1 a2 = some ro) (hG : GoodIn Ts (wsV own index RX4 yX4_ledger wsX4_ledger)) (hR : 1 + 1 ≤ R.frames ∧ 8 + (3 + 11) + 25 ≤ R.locals) (hls : ls.size = nL) (hrm : (rest.map fun v => v.category).sum ≤ 8) (hdg : decode cc pc = .ok (.invokevirtual index, 3)) (kk : ∀ (H1 : Heap) (locs1 : List Loc), va_P g.1 vwCl (tl_W g σ) H1 → va_S (tl_A g) H0 H1 locs1 → W p l e R s m args below meth c H1 locs1 0 0 Q (F0 m (pc + 3) ls (.int ro :: rest))) : W p l e R s m args below meth c H locs 0 0 Q (F0 m pc ls (.int a2 :: .int a1 :: .ref (tl_ad g 34) :: rest)) :=
  tl_goi (tl_callV C hts hP (okX4_ledger l g C.2.2.2.2.2.2.2 σ a1 a2 ro h) rfl rfl rfl (n := 2) (by decide +kernel) rfl (ci := 4) rfl (tl_kM g σ) hG hR hls rfl hrm hdg) hS kk
abbrev rX4_wipe : Room := { frames := 0, cells := 0, slots := 0, locals := 0 }
set_option maxHeartbeats 4000000 in
set_option maxRecDepth 100000 in
theorem okX4_wipe (l : Launch) (g : tl_G) (hI : tl_I g) (σ : tl_St) (ro : Int32) (σo : tl_St) (h : fX4_wipe σ = (ro, σo)) : Met l yX4_wipe wsX4_wipe rX4_wipe (va_Pc [.ref (tl_ad g 34)] (tl_Pre g σ)) (tl_Qi g ro σo) 0 0 (tl_A g) := by
  refine tl_enter (cc := cX4_wipe) (maxL := 2) (ret := (some .int)) (own := RX4) hI (by decide) rfl rfl (Nat.le_of_ble_eq_true rfl) ?_
  intro p e s m below meth c C hts H locs hP hS ls hl
  have hx := C.1
  have hb := C.2.1
  have hl : lv_has ls 2 [(0, .ref (tl_ad g 34))] := hl
  have hc4 : ∀ w ∈ u_ws RX4 TX4 30, w.before [.ref (tl_ad g 34)].toArray s = true := fun w hw => hts w (List.mem_cons_of_mem _ (List.mem_append_right _ hw))
  have lk0 : (Cond.fieldLink RX4 174 "ThriftLockModel" "turns" "I").before [.ref (tl_ad g 34)].toArray s = true := hts _ (List.mem_cons_of_mem _ (List.mem_append_left _ (List.mem_of_getElem? (i := 0) rfl)))
  unfold fX4_wipe at h
  refine lv_aload_n (pc := 0) hx hb dX4_wipe_0 rfl (lv_at hl 0 rfl) ?_
  refine tl_gM_25 (pc := 1) C hc4 hP lk0 dX4_wipe_1 ?_
  obtain ⟨x1, ex1, h⟩ := tl_nm h
  refine tl_ti ex1 ?_
  refine lv_istore_n (pc := 4) (lv' := [(1, .int x1), (0, .ref (tl_ad g 34))]) hx hb dX4_wipe_4 rfl hl (by decide) rfl (fun ls hl => ?_)
  refine lv_aload_n (pc := 5) hx hb dX4_wipe_5 rfl (lv_at hl 1 rfl) ?_
  refine lv_iconst (pc := 6) (v := 0) hx hb dX4_wipe_6 (by decide) ?_
  obtain ⟨σ2, eσ2, h⟩ := tl_nm h
  refine tl_sM_25 (pc := 7) C hc4 hP hS eσ2 lk0 dX4_wipe_7 (fun H locs hP hS => ?_)
  refine lv_iload_n (pc := 10) hx hb dX4_wipe_10 rfl (lv_at hl 0 rfl) ?_
  exact tl_Ritw (pc := 11) C h hP hS dX4_wipe_11
theorem caX4_wipe {p : Program} {l : Launch} {e : Env} {R : Room} {s : State} {m : MethodId} {args : Array Value} {below : List Frame} {meth : Method} {c : Code} {H : Heap} {locs : List Loc} {Q : State → Prop} {cc : ByteArray} {pc : Nat} {ls : Array Slot} {rest : List Value} {g : tl_G} {σ : tl_St} {H0 : Heap} {nL : Nat} {own : String} {ret : Option FieldType} {index : Nat} (C : tl_C p s m meth c cc nL own ret g) {Ts : List Cond} (hts : ∀ w ∈ Ts, w.before args s = true) (hP : va_P g.1 vwCl (tl_W g σ) H) (hS : va_S (tl_A g) H0 H locs) {ro : Int32} {σo : tl_St} (h : fX4_wipe σ = (ro, σo)) (hG : GoodIn Ts (wsV own index RX4 yX4_wipe wsX4_wipe)) (hR : 0 + 1 ≤ R.frames ∧ 8 + (2 + 11) + 0 ≤ R.locals) (hls : ls.size = nL) (hrm : (rest.map fun v => v.category).sum ≤ 8) (hdg : decode cc pc = .ok (.invokevirtual index, 3)) (kk : ∀ (H1 : Heap) (locs1 : List Loc), va_P g.1 vwCl (tl_W g σo) H1 → va_S (tl_A g) H0 H1 locs1 → W p l e R s m args below meth c H1 locs1 0 0 Q (F0 m (pc + 3) ls (.int ro :: rest))) : W p l e R s m args below meth c H locs 0 0 Q (F0 m pc ls (.ref (tl_ad g 34) :: rest)) :=
  tl_goi (tl_callV C hts hP (okX4_wipe l g C.2.2.2.2.2.2.2 σ ro σo h) rfl rfl rfl (n := 0) (by decide +kernel) rfl (ci := 4) rfl (tl_kM g σ) hG hR hls rfl hrm hdg) hS kk
abbrev rX4_inBasins : Room := { frames := 0, cells := 0, slots := 0, locals := 0 }
set_option maxHeartbeats 4000000 in
set_option maxRecDepth 100000 in
theorem okX4_inBasins (l : Launch) (g : tl_G) (hI : tl_I g) (σ : tl_St) (ro : Int32) (h : fX4_inBasins σ = some ro) : Met l yX4_inBasins wsX4_inBasins rX4_inBasins (va_Pc [.ref (tl_ad g 34)] (tl_Pre g σ)) (tl_Qi g ro σ) 0 0 (tl_A g) := by
  refine tl_enter (cc := cX4_inBasins) (maxL := 3) (ret := (some .int)) (own := RX4) hI (by decide) rfl rfl (Nat.le_of_ble_eq_true rfl) ?_
  intro p e s m below meth c C hts H locs hP hS ls hl
  have hx := C.1
  have hb := C.2.1
  have hl : lv_has ls 3 [(0, .ref (tl_ad g 34))] := hl
  have hc4 : ∀ w ∈ u_ws RX4 TX4 30, w.before [.ref (tl_ad g 34)].toArray s = true := fun w hw => hts w (List.mem_cons_of_mem _ (List.mem_append_right _ hw))
  have lk0 : (Cond.fieldLink RX4 96 "ThriftLockModel" "basins" "I").before [.ref (tl_ad g 34)].toArray s = true := hts _ (List.mem_cons_of_mem _ (List.mem_append_left _ (List.mem_of_getElem? (i := 0) rfl)))
  have lk1 : (Cond.fieldLink RX4 34 "ThriftLockModel" "held" "[I").before [.ref (tl_ad g 34)].toArray s = true := hts _ (List.mem_cons_of_mem _ (List.mem_append_left _ (List.mem_of_getElem? (i := 1) rfl)))
  unfold fX4_inBasins at h
  refine lv_iconst (pc := 0) (v := 0) hx hb dX4_inBasins_0 (by decide) ?_
  refine lv_istore_n (pc := 1) (lv' := [(1, .int 0), (0, .ref (tl_ad g 34))]) hx hb dX4_inBasins_1 rfl hl (by decide) rfl (fun ls hl => ?_)
  refine lv_iconst (pc := 2) (v := 0) hx hb dX4_inBasins_2 (by decide) ?_
  refine lv_istore_n (pc := 3) (lv' := [(2, .int 0), (1, .int 0), (0, .ref (tl_ad g 34))]) hx hb dX4_inBasins_3 rfl hl (by decide) rfl (fun ls hl => ?_)
  obtain ⟨k2, ek2, h⟩ := tl_j1 h
  have hZ2 : ∀ (x1 : Int32) (H : Heap) (locs : List Loc) (ls : Array Slot), k2 x1 = some ro → va_P g.1 vwCl (tl_W g σ) H → va_S (tl_A g) s.heap H locs → lv_has ls 3 [(1, .int x1)] → W p l e rX4_inBasins s m [.ref (tl_ad g 34)].toArray below meth c H locs 0 0 (MQ below (tl_Qi g ro σ) [.ref (tl_ad g 34)].toArray s 0 0 (tl_A g)) (F0 m 27 ls []) := by
    intro x1 H locs ls h hP hS hl
    replace h := (ek2 x1).trans h
    refine lv_iload_n (pc := 27) hx hb dX4_inBasins_27 rfl (lv_at hl 0 rfl) ?_
    exact tl_Ripr (pc := 28) C h hP hS dX4_inBasins_28
  have hL4 : ∀ (n : Nat) (x3 : Int32) (x4 : Int32) (H : Heap) (locs : List Loc) (ls : Array Slot), fX4_inBasins_L4 σ k2 n x3 x4 = some ro → va_P g.1 vwCl (tl_W g σ) H → va_S (tl_A g) s.heap H locs → lv_has ls 3 [(0, .ref (tl_ad g 34)), (1, .int x3), (2, .int x4)] → W p l e rX4_inBasins s m [.ref (tl_ad g 34)].toArray below meth c H locs 0 0 (MQ below (tl_Qi g ro σ) [.ref (tl_ad g 34)].toArray s 0 0 (tl_A g)) (F0 m 4 ls []) := by
    intro n
    induction n with
    | zero =>
      intro x3 x4 H locs ls h hP hS hl
      rw [fX4_inBasins_L4] at h
      cases h
    | succ n ih =>
      intro x3 x4 H locs ls h hP hS hl
      rw [fX4_inBasins_L4] at h
      refine lv_iload_n (pc := 4) hx hb dX4_inBasins_4 rfl (lv_at hl 2 rfl) ?_
      refine lv_aload_n (pc := 5) hx hb dX4_inBasins_5 rfl (lv_at hl 0 rfl) ?_
      refine tl_gM_7 (pc := 6) C hc4 hP lk0 dX4_inBasins_6 ?_
      refine lv_icmp_ge (pc := 9) (tgt := 27) hx hb dX4_inBasins_9 (by decide) (fun c5 => ?_) (fun c5 => ?_)
      · replace h := (if_pos c5).symm.trans h
        exact hZ2 x3 _ _ _ h hP hS (lv_sub hl [1] rfl)
      · replace h := (if_neg c5).symm.trans h
        refine lv_iload_n (pc := 12) hx hb dX4_inBasins_12 rfl (lv_at hl 1 rfl) ?_
        refine lv_aload_n (pc := 13) hx hb dX4_inBasins_13 rfl (lv_at hl 0 rfl) ?_
        refine tl_gM_12 (pc := 14) C hc4 hP lk1 dX4_inBasins_14 ?_
        refine lv_iload_n (pc := 17) hx hb dX4_inBasins_17 rfl (lv_at hl 2 rfl) ?_
        obtain ⟨g6, h⟩ := tl_gd h
        refine tl_ald (pc := 18) C hP (tl_a43 g) g6 dX4_inBasins_18 ?_
        refine lv_iadd (pc := 19) hx hb dX4_inBasins_19 ?_
        obtain ⟨x7, ex7, h⟩ := tl_nm h
        refine tl_ti ex7 ?_
        refine lv_istore_n (pc := 20) (lv' := [(1, .int x7), (0, .ref (tl_ad g 34)), (2, .int x4)]) hx hb dX4_inBasins_20 rfl hl (by decide) rfl (fun ls hl => ?_)
        obtain ⟨x8, ex8, h⟩ := tl_nm h
        refine lv_iinc (pc := 21) (v := x8) (lv' := [(2, .int x8), (1, .int x7), (0, .ref (tl_ad g 34))]) hx hb dX4_inBasins_21 hl (k := 2) rfl ex8 (by decide) rfl (fun ls hl => ?_)
        refine lv_goto (pc := 24) (tgt := 4) hx hb dX4_inBasins_24 (by decide) ?_
        exact ih x7 x8 _ _ _ h hP hS (lv_sub hl [2, 1, 0] rfl)
  exact hL4 1000 0 0 _ _ _ h hP hS (lv_sub hl [2, 1, 0] rfl)
theorem caX4_inBasins {p : Program} {l : Launch} {e : Env} {R : Room} {s : State} {m : MethodId} {args : Array Value} {below : List Frame} {meth : Method} {c : Code} {H : Heap} {locs : List Loc} {Q : State → Prop} {cc : ByteArray} {pc : Nat} {ls : Array Slot} {rest : List Value} {g : tl_G} {σ : tl_St} {H0 : Heap} {nL : Nat} {own : String} {ret : Option FieldType} {index : Nat} (C : tl_C p s m meth c cc nL own ret g) {Ts : List Cond} (hts : ∀ w ∈ Ts, w.before args s = true) (hP : va_P g.1 vwCl (tl_W g σ) H) (hS : va_S (tl_A g) H0 H locs) {ro : Int32} (h : fX4_inBasins σ = some ro) (hG : GoodIn Ts (wsV own index RX4 yX4_inBasins wsX4_inBasins)) (hR : 0 + 1 ≤ R.frames ∧ 8 + (3 + 11) + 0 ≤ R.locals) (hls : ls.size = nL) (hrm : (rest.map fun v => v.category).sum ≤ 8) (hdg : decode cc pc = .ok (.invokevirtual index, 3)) (kk : ∀ (H1 : Heap) (locs1 : List Loc), va_P g.1 vwCl (tl_W g σ) H1 → va_S (tl_A g) H0 H1 locs1 → W p l e R s m args below meth c H1 locs1 0 0 Q (F0 m (pc + 3) ls (.int ro :: rest))) : W p l e R s m args below meth c H locs 0 0 Q (F0 m pc ls (.ref (tl_ad g 34) :: rest)) :=
  tl_goi (tl_callV C hts hP (okX4_inBasins l g C.2.2.2.2.2.2.2 σ ro h) rfl rfl rfl (n := 0) (by decide +kernel) rfl (ci := 4) rfl (tl_kM g σ) hG hR hls rfl hrm hdg) hS kk
abbrev rX4_totalBy : Room := { frames := 1, cells := 0, slots := 0, locals := 22 }
set_option maxHeartbeats 4000000 in
set_option maxRecDepth 100000 in
theorem okX4_totalBy (l : Launch) (g : tl_G) (hI : tl_I g) (σ : tl_St) (a1 : Int32) (ro : Int32) (h : fX4_totalBy σ a1 = some ro) : Met l yX4_totalBy wsX4_totalBy rX4_totalBy (va_Pc [.ref (tl_ad g 34), .int a1] (tl_Pre g σ)) (tl_Qi g ro σ) 0 0 (tl_A g) := by
  refine tl_enter (cc := cX4_totalBy) (maxL := 2) (ret := (some .int)) (own := RX4) hI (by decide) rfl rfl (Nat.le_of_ble_eq_true rfl) ?_
  intro p e s m below meth c C hts H locs hP hS ls hl
  have hx := C.1
  have hb := C.2.1
  have hl : lv_has ls 2 [(0, .ref (tl_ad g 34)), (1, .int a1)] := hl
  have hc4 : ∀ w ∈ u_ws RX4 TX4 30, w.before [.ref (tl_ad g 34), .int a1].toArray s = true := fun w hw => hts w (List.mem_cons_of_mem _ (List.mem_append_right _ hw))
  have lk0 : (Cond.fieldLink RX4 189 "ThriftLockModel" "turnsEver" "I").before [.ref (tl_ad g 34), .int a1].toArray s = true := hts _ (List.mem_cons_of_mem _ (List.mem_append_left _ (List.mem_of_getElem? (i := 3) rfl)))
  have lk1 : (Cond.fieldLink RX4 186 "ThriftLockModel" "leakedEver" "I").before [.ref (tl_ad g 34), .int a1].toArray s = true := hts _ (List.mem_cons_of_mem _ (List.mem_append_left _ (List.mem_of_getElem? (i := 2) rfl)))
  have lk2 : (Cond.fieldLink RX4 183 "ThriftLockModel" "lostEver" "I").before [.ref (tl_ad g 34), .int a1].toArray s = true := hts _ (List.mem_cons_of_mem _ (List.mem_append_left _ (List.mem_of_getElem? (i := 1) rfl)))
  have lk3 : (Cond.fieldLink RX4 180 "ThriftLockModel" "drawnEver" "I").before [.ref (tl_ad g 34), .int a1].toArray s = true := hts _ (List.mem_cons_of_mem _ (List.mem_append_left _ (List.mem_of_getElem? (i := 0) rfl)))
  unfold fX4_totalBy at h
  refine lv_iload_n (pc := 0) hx hb dX4_totalBy_0 rfl (lv_at hl 1 rfl) ?_
  refine lv_if_ne (pc := 1) (tgt := 11) hx hb dX4_totalBy_1 (by decide) (fun c1 => ?_) (fun c1 => ?_)
  · replace h := (if_neg c1).symm.trans h
    refine lv_iload_n (pc := 11) hx hb dX4_totalBy_11 rfl (lv_at hl 1 rfl) ?_
    refine lv_iconst (pc := 12) (v := 1) hx hb dX4_totalBy_12 (by decide) ?_
    refine lv_icmp_ne (pc := 13) (tgt := 23) hx hb dX4_totalBy_13 (by decide) (fun c2 => ?_) (fun c2 => ?_)
    · replace h := (if_neg c2).symm.trans h
      refine lv_iload_n (pc := 23) hx hb dX4_totalBy_23 rfl (lv_at hl 1 rfl) ?_
      refine lv_iconst (pc := 24) (v := 2) hx hb dX4_totalBy_24 (by decide) ?_
      refine lv_icmp_ne (pc := 25) (tgt := 35) hx hb dX4_totalBy_25 (by decide) (fun c3 => ?_) (fun c3 => ?_)
      · replace h := (if_neg c3).symm.trans h
        refine lv_iload_n (pc := 35) hx hb dX4_totalBy_35 rfl (lv_at hl 1 rfl) ?_
        refine lv_iconst (pc := 36) (v := 3) hx hb dX4_totalBy_36 (by decide) ?_
        refine lv_icmp_ne (pc := 37) (tgt := 47) hx hb dX4_totalBy_37 (by decide) (fun c4 => ?_) (fun c4 => ?_)
        · replace h := (if_neg c4).symm.trans h
          refine lv_aload_n (pc := 47) hx hb dX4_totalBy_47 rfl (lv_at hl 0 rfl) ?_
          refine tl_gM_29 (pc := 48) C hc4 hP lk0 dX4_totalBy_48 ?_
          exact tl_Ripr (pc := 51) C h hP hS dX4_totalBy_51
        · replace h := (if_pos c4).symm.trans h
          refine lv_aload_n (pc := 40) hx hb dX4_totalBy_40 rfl (lv_at hl 0 rfl) ?_
          obtain ⟨r5, er5, h⟩ := tl_o1s h
          refine caX4_inBasins (pc := 41) C hts hP hS er5 gX4_totalBy_X4_inBasins ⟨Nat.le_of_ble_eq_true rfl, Nat.le_of_ble_eq_true rfl⟩ hl.1 (Nat.le_of_ble_eq_true rfl) dX4_totalBy_41 (fun H locs hP hS => ?_)
          refine lv_goto (pc := 44) (tgt := 51) hx hb dX4_totalBy_44 (by decide) ?_
          exact tl_Ripr (pc := 51) C h hP hS dX4_totalBy_51
      · replace h := (if_pos c3).symm.trans h
        refine lv_aload_n (pc := 28) hx hb dX4_totalBy_28 rfl (lv_at hl 0 rfl) ?_
        refine tl_gM_28 (pc := 29) C hc4 hP lk1 dX4_totalBy_29 ?_
        refine lv_goto (pc := 32) (tgt := 51) hx hb dX4_totalBy_32 (by decide) ?_
        exact tl_Ripr (pc := 51) C h hP hS dX4_totalBy_51
    · replace h := (if_pos c2).symm.trans h
      refine lv_aload_n (pc := 16) hx hb dX4_totalBy_16 rfl (lv_at hl 0 rfl) ?_
      refine tl_gM_27 (pc := 17) C hc4 hP lk2 dX4_totalBy_17 ?_
      refine lv_goto (pc := 20) (tgt := 51) hx hb dX4_totalBy_20 (by decide) ?_
      exact tl_Ripr (pc := 51) C h hP hS dX4_totalBy_51
  · replace h := (if_pos c1).symm.trans h
    refine lv_aload_n (pc := 4) hx hb dX4_totalBy_4 rfl (lv_at hl 0 rfl) ?_
    refine tl_gM_26 (pc := 5) C hc4 hP lk3 dX4_totalBy_5 ?_
    refine lv_goto (pc := 8) (tgt := 51) hx hb dX4_totalBy_8 (by decide) ?_
    exact tl_Ripr (pc := 51) C h hP hS dX4_totalBy_51
theorem caX4_totalBy {p : Program} {l : Launch} {e : Env} {R : Room} {s : State} {m : MethodId} {args : Array Value} {below : List Frame} {meth : Method} {c : Code} {H : Heap} {locs : List Loc} {Q : State → Prop} {cc : ByteArray} {pc : Nat} {ls : Array Slot} {rest : List Value} {g : tl_G} {σ : tl_St} {H0 : Heap} {nL : Nat} {own : String} {ret : Option FieldType} {index : Nat} (C : tl_C p s m meth c cc nL own ret g) {Ts : List Cond} (hts : ∀ w ∈ Ts, w.before args s = true) (hP : va_P g.1 vwCl (tl_W g σ) H) (hS : va_S (tl_A g) H0 H locs) {a1 : Int32} {ro : Int32} (h : fX4_totalBy σ a1 = some ro) (hG : GoodIn Ts (wsV own index RX4 yX4_totalBy wsX4_totalBy)) (hR : 1 + 1 ≤ R.frames ∧ 8 + (2 + 11) + 22 ≤ R.locals) (hls : ls.size = nL) (hrm : (rest.map fun v => v.category).sum ≤ 8) (hdg : decode cc pc = .ok (.invokevirtual index, 3)) (kk : ∀ (H1 : Heap) (locs1 : List Loc), va_P g.1 vwCl (tl_W g σ) H1 → va_S (tl_A g) H0 H1 locs1 → W p l e R s m args below meth c H1 locs1 0 0 Q (F0 m (pc + 3) ls (.int ro :: rest))) : W p l e R s m args below meth c H locs 0 0 Q (F0 m pc ls (.int a1 :: .ref (tl_ad g 34) :: rest)) :=
  tl_goi (tl_callV C hts hP (okX4_totalBy l g C.2.2.2.2.2.2.2 σ a1 ro h) rfl rfl rfl (n := 1) (by decide +kernel) rfl (ci := 4) rfl (tl_kM g σ) hG hR hls rfl hrm hdg) hS kk
abbrev rX4_total : Room := { frames := 2, cells := 0, slots := 0, locals := 43 }
set_option maxHeartbeats 4000000 in
set_option maxRecDepth 100000 in
theorem okX4_total (l : Launch) (g : tl_G) (hI : tl_I g) (σ : tl_St) (a1 : Int32) (ro : Int32) (h : fX4_total σ a1 = some ro) : Met l yX4_total wsX4_total rX4_total (va_Pc [.ref (tl_ad g 34), .int a1] (tl_Pre g σ)) (tl_Qi g ro σ) 0 0 (tl_A g) := by
  refine tl_enter (cc := cX4_total) (maxL := 2) (ret := (some .int)) (own := RX4) hI (by decide) rfl rfl (Nat.le_of_ble_eq_true rfl) ?_
  intro p e s m below meth c C hts H locs hP hS ls hl
  have hx := C.1
  have hb := C.2.1
  have hl : lv_has ls 2 [(0, .ref (tl_ad g 34)), (1, .int a1)] := hl
  have lk0 : (Cond.constantLong RX4 201 (4)).before [.ref (tl_ad g 34), .int a1].toArray s = true := hts _ (List.mem_cons_of_mem _ (List.mem_append_left _ (List.mem_of_getElem? (i := 0) rfl)))
  unfold fX4_total at h
  refine lv_iload_n (pc := 0) hx hb dX4_total_0 rfl (lv_at hl 1 rfl) ?_
  refine lv_i2l (pc := 1) hx hb dX4_total_1 rfl ?_
  refine lv_lconst (pc := 2) (v := 0) hx hb dX4_total_2 (by decide) ?_
  refine lv_ldc2 (pc := 3) (v := 4) hx hb C.2.2.2.1 lk0 dX4_total_3 ?_
  obtain ⟨r1, er1, h⟩ := tl_nm h
  refine caX4_in (pc := 6) C hts hP hS er1 gX4_total_X4_in ⟨Nat.le_of_ble_eq_true rfl, Nat.le_of_ble_eq_true rfl⟩ hl.1 (Nat.le_of_ble_eq_true rfl) dX4_total_6 (fun H locs hP hS => ?_)
  refine lv_if_eq (pc := 9) (tgt := 20) hx hb dX4_total_9 (by decide) (fun c2 => ?_) (fun c2 => ?_)
  · replace h := (if_pos c2).symm.trans h
    refine lv_bipush (pc := 20) (v := (-2)) hx hb dX4_total_20 (by decide) ?_
    exact tl_Ripr (pc := 22) C h hP hS dX4_total_22
  · replace h := (if_neg c2).symm.trans h
    refine lv_aload_n (pc := 12) hx hb dX4_total_12 rfl (lv_at hl 0 rfl) ?_
    refine lv_iload_n (pc := 13) hx hb dX4_total_13 rfl (lv_at hl 1 rfl) ?_
    obtain ⟨r3, er3, h⟩ := tl_o1s h
    refine caX4_totalBy (pc := 14) C hts hP hS er3 gX4_total_X4_totalBy ⟨Nat.le_of_ble_eq_true rfl, Nat.le_of_ble_eq_true rfl⟩ hl.1 (Nat.le_of_ble_eq_true rfl) dX4_total_14 (fun H locs hP hS => ?_)
    refine lv_goto (pc := 17) (tgt := 22) hx hb dX4_total_17 (by decide) ?_
    exact tl_Ripr (pc := 22) C h hP hS dX4_total_22
theorem caX4_total {p : Program} {l : Launch} {e : Env} {R : Room} {s : State} {m : MethodId} {args : Array Value} {below : List Frame} {meth : Method} {c : Code} {H : Heap} {locs : List Loc} {Q : State → Prop} {cc : ByteArray} {pc : Nat} {ls : Array Slot} {rest : List Value} {g : tl_G} {σ : tl_St} {H0 : Heap} {nL : Nat} {own : String} {ret : Option FieldType} {index : Nat} (C : tl_C p s m meth c cc nL own ret g) {Ts : List Cond} (hts : ∀ w ∈ Ts, w.before args s = true) (hP : va_P g.1 vwCl (tl_W g σ) H) (hS : va_S (tl_A g) H0 H locs) {a1 : Int32} {ro : Int32} (h : fX4_total σ a1 = some ro) (hG : GoodIn Ts (wsV own index RX4 yX4_total wsX4_total)) (hR : 2 + 1 ≤ R.frames ∧ 8 + (2 + 11) + 43 ≤ R.locals) (hls : ls.size = nL) (hrm : (rest.map fun v => v.category).sum ≤ 8) (hdg : decode cc pc = .ok (.invokevirtual index, 3)) (kk : ∀ (H1 : Heap) (locs1 : List Loc), va_P g.1 vwCl (tl_W g σ) H1 → va_S (tl_A g) H0 H1 locs1 → W p l e R s m args below meth c H1 locs1 0 0 Q (F0 m (pc + 3) ls (.int ro :: rest))) : W p l e R s m args below meth c H locs 0 0 Q (F0 m pc ls (.int a1 :: .ref (tl_ad g 34) :: rest)) :=
  tl_goi (tl_callV C hts hP (okX4_total l g C.2.2.2.2.2.2.2 σ a1 ro h) rfl rfl rfl (n := 1) (by decide +kernel) rfl (ci := 4) rfl (tl_kM g σ) hG hR hls rfl hrm hdg) hS kk
abbrev rX4_looks : Room := { frames := 3, cells := 0, slots := 0, locals := 70 }
set_option maxHeartbeats 4000000 in
set_option maxRecDepth 100000 in
theorem okX4_looks (l : Launch) (g : tl_G) (hI : tl_I g) (σ : tl_St) (σo : tl_St) (h : fX4_looks σ = some σo) : Met l yX4_looks wsX4_looks rX4_looks (va_Pc [.ref (tl_ad g 34)] (tl_Pre g σ)) (tl_Qv g σo) 0 0 (tl_A g) := by
  refine tl_enter (cc := cX4_looks) (maxL := 1) (ret := none) (own := RX4) hI (by decide) rfl rfl (Nat.le_of_ble_eq_true rfl) ?_
  intro p e s m below meth c C hts H locs hP hS ls hl
  have hx := C.1
  have hb := C.2.1
  have hl : lv_has ls 1 [(0, .ref (tl_ad g 34))] := hl
  unfold fX4_looks at h
  refine lv_aload_n (pc := 0) hx hb dX4_looks_0 rfl (lv_at hl 0 rfl) ?_
  obtain ⟨σ1, eσ1, h⟩ := tl_o1s h
  refine caX4_keeps (pc := 1) C hts hP hS eσ1 gX4_looks_X4_keeps ⟨Nat.le_of_ble_eq_true rfl, Nat.le_of_ble_eq_true rfl⟩ hl.1 (Nat.le_of_ble_eq_true rfl) dX4_looks_1 (fun H locs hP hS => ?_)
  refine lv_aload_n (pc := 4) hx hb dX4_looks_4 rfl (lv_at hl 0 rfl) ?_
  obtain ⟨σ2, eσ2, h⟩ := tl_o1s h
  refine caX4_moves (pc := 5) C hts hP hS eσ2 gX4_looks_X4_moves ⟨Nat.le_of_ble_eq_true rfl, Nat.le_of_ble_eq_true rfl⟩ hl.1 (Nat.le_of_ble_eq_true rfl) dX4_looks_5 (fun H locs hP hS => ?_)
  refine lv_aload_n (pc := 8) hx hb dX4_looks_8 rfl (lv_at hl 0 rfl) ?_
  obtain ⟨σ3, eσ3, h⟩ := tl_o1s h
  refine caX4_takesBack (pc := 9) C hts hP hS eσ3 gX4_looks_X4_takesBack ⟨Nat.le_of_ble_eq_true rfl, Nat.le_of_ble_eq_true rfl⟩ hl.1 (Nat.le_of_ble_eq_true rfl) dX4_looks_9 (fun H locs hP hS => ?_)
  exact tl_Rvpw (pc := 12) C h hP hS dX4_looks_12
theorem caX4_looks {p : Program} {l : Launch} {e : Env} {R : Room} {s : State} {m : MethodId} {args : Array Value} {below : List Frame} {meth : Method} {c : Code} {H : Heap} {locs : List Loc} {Q : State → Prop} {cc : ByteArray} {pc : Nat} {ls : Array Slot} {rest : List Value} {g : tl_G} {σ : tl_St} {H0 : Heap} {nL : Nat} {own : String} {ret : Option FieldType} {index : Nat} (C : tl_C p s m meth c cc nL own ret g) {Ts : List Cond} (hts : ∀ w ∈ Ts, w.before args s = true) (hP : va_P g.1 vwCl (tl_W g σ) H) (hS : va_S (tl_A g) H0 H locs) {σo : tl_St} (h : fX4_looks σ = some σo) (hG : GoodIn Ts (wsV own index RX4 yX4_looks wsX4_looks)) (hR : 3 + 1 ≤ R.frames ∧ 8 + (1 + 11) + 70 ≤ R.locals) (hls : ls.size = nL) (hrm : (rest.map fun v => v.category).sum ≤ 8) (hdg : decode cc pc = .ok (.invokevirtual index, 3)) (kk : ∀ (H1 : Heap) (locs1 : List Loc), va_P g.1 vwCl (tl_W g σo) H1 → va_S (tl_A g) H0 H1 locs1 → W p l e R s m args below meth c H1 locs1 0 0 Q (F0 m (pc + 3) ls (rest))) : W p l e R s m args below meth c H locs 0 0 Q (F0 m pc ls (.ref (tl_ad g 34) :: rest)) :=
  tl_gov (tl_callV C hts hP (okX4_looks l g C.2.2.2.2.2.2.2 σ σo h) rfl rfl rfl (n := 0) (by decide +kernel) rfl (ci := 4) rfl (tl_kM g σ) hG hR hls rfl hrm hdg) hS kk
abbrev rX4_stepBy : Room := { frames := 0, cells := 0, slots := 0, locals := 0 }
set_option maxHeartbeats 4000000 in
set_option maxRecDepth 100000 in
theorem okX4_stepBy (l : Launch) (g : tl_G) (hI : tl_I g) (σ : tl_St) (a1 : Int32) (ro : Int32) (h : fX4_stepBy σ a1 = some ro) : Met l yX4_stepBy wsX4_stepBy rX4_stepBy (va_Pc [.ref (tl_ad g 34), .int a1] (tl_Pre g σ)) (tl_Qi g ro σ) 0 0 (tl_A g) := by
  refine tl_enter (cc := cX4_stepBy) (maxL := 2) (ret := (some .int)) (own := RX4) hI (by decide) rfl rfl (Nat.le_of_ble_eq_true rfl) ?_
  intro p e s m below meth c C hts H locs hP hS ls hl
  have hx := C.1
  have hb := C.2.1
  have hl : lv_has ls 2 [(0, .ref (tl_ad g 34)), (1, .int a1)] := hl
  have hc4 : ∀ w ∈ u_ws RX4 TX4 30, w.before [.ref (tl_ad g 34), .int a1].toArray s = true := fun w hw => hts w (List.mem_cons_of_mem _ (List.mem_append_right _ hw))
  have lk0 : (Cond.fieldLink RX4 56 "ThriftLockModel" "head" "I").before [.ref (tl_ad g 34), .int a1].toArray s = true := hts _ (List.mem_cons_of_mem _ (List.mem_append_left _ (List.mem_of_getElem? (i := 0) rfl)))
  have lk1 : (Cond.fieldLink RX4 44 "ThriftLockModel" "steps" "[I").before [.ref (tl_ad g 34), .int a1].toArray s = true := hts _ (List.mem_cons_of_mem _ (List.mem_append_left _ (List.mem_of_getElem? (i := 1) rfl)))
  unfold fX4_stepBy at h
  refine lv_iload_n (pc := 0) hx hb dX4_stepBy_0 rfl (lv_at hl 1 rfl) ?_
  refine lv_iconst (pc := 1) (v := (-1)) hx hb dX4_stepBy_1 (by decide) ?_
  refine lv_icmp_ne (pc := 2) (tgt := 12) hx hb dX4_stepBy_2 (by decide) (fun c1 => ?_) (fun c1 => ?_)
  · replace h := (if_neg c1).symm.trans h
    refine lv_iload_n (pc := 12) hx hb dX4_stepBy_12 rfl (lv_at hl 1 rfl) ?_
    refine lv_aload_n (pc := 13) hx hb dX4_stepBy_13 rfl (lv_at hl 0 rfl) ?_
    refine tl_gM_5 (pc := 14) C hc4 hP lk0 dX4_stepBy_14 ?_
    refine lv_icmp_ge (pc := 17) (tgt := 29) hx hb dX4_stepBy_17 (by decide) (fun c2 => ?_) (fun c2 => ?_)
    · replace h := (if_pos c2).symm.trans h
      refine lv_iconst (pc := 29) (v := (-1)) hx hb dX4_stepBy_29 (by decide) ?_
      exact tl_Ripr (pc := 30) C h hP hS dX4_stepBy_30
    · replace h := (if_neg c2).symm.trans h
      refine lv_aload_n (pc := 20) hx hb dX4_stepBy_20 rfl (lv_at hl 0 rfl) ?_
      refine tl_gM_18 (pc := 21) C hc4 hP lk1 dX4_stepBy_21 ?_
      refine lv_iload_n (pc := 24) hx hb dX4_stepBy_24 rfl (lv_at hl 1 rfl) ?_
      obtain ⟨g3, h⟩ := tl_gd h
      refine tl_ald (pc := 25) C hP (tl_a46 g) g3 dX4_stepBy_25 ?_
      refine lv_goto (pc := 26) (tgt := 30) hx hb dX4_stepBy_26 (by decide) ?_
      exact tl_Ripr (pc := 30) C h hP hS dX4_stepBy_30
  · replace h := (if_pos c1).symm.trans h
    refine lv_aload_n (pc := 5) hx hb dX4_stepBy_5 rfl (lv_at hl 0 rfl) ?_
    refine tl_gM_5 (pc := 6) C hc4 hP lk0 dX4_stepBy_6 ?_
    refine lv_goto (pc := 9) (tgt := 30) hx hb dX4_stepBy_9 (by decide) ?_
    exact tl_Ripr (pc := 30) C h hP hS dX4_stepBy_30
theorem caX4_stepBy {p : Program} {l : Launch} {e : Env} {R : Room} {s : State} {m : MethodId} {args : Array Value} {below : List Frame} {meth : Method} {c : Code} {H : Heap} {locs : List Loc} {Q : State → Prop} {cc : ByteArray} {pc : Nat} {ls : Array Slot} {rest : List Value} {g : tl_G} {σ : tl_St} {H0 : Heap} {nL : Nat} {own : String} {ret : Option FieldType} {index : Nat} (C : tl_C p s m meth c cc nL own ret g) {Ts : List Cond} (hts : ∀ w ∈ Ts, w.before args s = true) (hP : va_P g.1 vwCl (tl_W g σ) H) (hS : va_S (tl_A g) H0 H locs) {a1 : Int32} {ro : Int32} (h : fX4_stepBy σ a1 = some ro) (hG : GoodIn Ts (wsV own index RX4 yX4_stepBy wsX4_stepBy)) (hR : 0 + 1 ≤ R.frames ∧ 8 + (2 + 11) + 0 ≤ R.locals) (hls : ls.size = nL) (hrm : (rest.map fun v => v.category).sum ≤ 8) (hdg : decode cc pc = .ok (.invokevirtual index, 3)) (kk : ∀ (H1 : Heap) (locs1 : List Loc), va_P g.1 vwCl (tl_W g σ) H1 → va_S (tl_A g) H0 H1 locs1 → W p l e R s m args below meth c H1 locs1 0 0 Q (F0 m (pc + 3) ls (.int ro :: rest))) : W p l e R s m args below meth c H locs 0 0 Q (F0 m pc ls (.int a1 :: .ref (tl_ad g 34) :: rest)) :=
  tl_goi (tl_callV C hts hP (okX4_stepBy l g C.2.2.2.2.2.2.2 σ a1 ro h) rfl rfl rfl (n := 1) (by decide +kernel) rfl (ci := 4) rfl (tl_kM g σ) hG hR hls rfl hrm hdg) hS kk
abbrev rX4_step : Room := { frames := 4, cells := 0, slots := 0, locals := 90 }
set_option maxHeartbeats 4000000 in
set_option maxRecDepth 100000 in
theorem okX4_step (l : Launch) (g : tl_G) (hI : tl_I g) (σ : tl_St) (a1 : Int32) (ro : Int32) (σo : tl_St) (h : fX4_step σ a1 = some (ro, σo)) : Met l yX4_step wsX4_step rX4_step (va_Pc [.ref (tl_ad g 34), .int a1] (tl_Pre g σ)) (tl_Qi g ro σo) 0 0 (tl_A g) := by
  refine tl_enter (cc := cX4_step) (maxL := 2) (ret := (some .int)) (own := RX4) hI (by decide) rfl rfl (Nat.le_of_ble_eq_true rfl) ?_
  intro p e s m below meth c C hts H locs hP hS ls hl
  have hx := C.1
  have hb := C.2.1
  have hl : lv_has ls 2 [(0, .ref (tl_ad g 34)), (1, .int a1)] := hl
  have lk0 : (Cond.constantLong RX4 128 (-1)).before [.ref (tl_ad g 34), .int a1].toArray s = true := hts _ (List.mem_cons_of_mem _ (List.mem_append_left _ (List.mem_append_left _ (List.mem_of_getElem? (i := 0) rfl))))
  have lk1 : (Cond.constantLong RX4 94 (59)).before [.ref (tl_ad g 34), .int a1].toArray s = true := hts _ (List.mem_cons_of_mem _ (List.mem_append_left _ (List.mem_append_left _ (List.mem_of_getElem? (i := 1) rfl))))
  unfold fX4_step at h
  refine lv_aload_n (pc := 0) hx hb dX4_step_0 rfl (lv_at hl 0 rfl) ?_
  obtain ⟨σ1, eσ1, h⟩ := tl_o1s h
  refine caX4_looks (pc := 1) C hts hP hS eσ1 gX4_step_X4_looks ⟨Nat.le_of_ble_eq_true rfl, Nat.le_of_ble_eq_true rfl⟩ hl.1 (Nat.le_of_ble_eq_true rfl) dX4_step_1 (fun H locs hP hS => ?_)
  refine lv_iload_n (pc := 4) hx hb dX4_step_4 rfl (lv_at hl 1 rfl) ?_
  refine lv_i2l (pc := 5) hx hb dX4_step_5 rfl ?_
  refine lv_ldc2 (pc := 6) (v := (-1)) hx hb C.2.2.2.1 lk0 dX4_step_6 ?_
  refine lv_ldc2 (pc := 9) (v := 59) hx hb C.2.2.2.1 lk1 dX4_step_9 ?_
  obtain ⟨r2, er2, h⟩ := tl_nm h
  refine caX4_in (pc := 12) C hts hP hS er2 gX4_step_X4_in ⟨Nat.le_of_ble_eq_true rfl, Nat.le_of_ble_eq_true rfl⟩ hl.1 (Nat.le_of_ble_eq_true rfl) dX4_step_12 (fun H locs hP hS => ?_)
  refine lv_if_eq (pc := 15) (tgt := 26) hx hb dX4_step_15 (by decide) (fun c3 => ?_) (fun c3 => ?_)
  · replace h := (if_pos c3).symm.trans h
    refine lv_bipush (pc := 26) (v := (-2)) hx hb dX4_step_26 (by decide) ?_
    exact tl_Ripw (pc := 28) C h hP hS dX4_step_28
  · replace h := (if_neg c3).symm.trans h
    refine lv_aload_n (pc := 18) hx hb dX4_step_18 rfl (lv_at hl 0 rfl) ?_
    refine lv_iload_n (pc := 19) hx hb dX4_step_19 rfl (lv_at hl 1 rfl) ?_
    obtain ⟨r4, er4, h⟩ := tl_o1s h
    refine caX4_stepBy (pc := 20) C hts hP hS er4 gX4_step_X4_stepBy ⟨Nat.le_of_ble_eq_true rfl, Nat.le_of_ble_eq_true rfl⟩ hl.1 (Nat.le_of_ble_eq_true rfl) dX4_step_20 (fun H locs hP hS => ?_)
    refine lv_goto (pc := 23) (tgt := 28) hx hb dX4_step_23 (by decide) ?_
    exact tl_Ripw (pc := 28) C h hP hS dX4_step_28
theorem caX4_step {p : Program} {l : Launch} {e : Env} {R : Room} {s : State} {m : MethodId} {args : Array Value} {below : List Frame} {meth : Method} {c : Code} {H : Heap} {locs : List Loc} {Q : State → Prop} {cc : ByteArray} {pc : Nat} {ls : Array Slot} {rest : List Value} {g : tl_G} {σ : tl_St} {H0 : Heap} {nL : Nat} {own : String} {ret : Option FieldType} {index : Nat} (C : tl_C p s m meth c cc nL own ret g) {Ts : List Cond} (hts : ∀ w ∈ Ts, w.before args s = true) (hP : va_P g.1 vwCl (tl_W g σ) H) (hS : va_S (tl_A g) H0 H locs) {a1 : Int32} {ro : Int32} {σo : tl_St} (h : fX4_step σ a1 = some (ro, σo)) (hG : GoodIn Ts (wsV own index RX4 yX4_step wsX4_step)) (hR : 4 + 1 ≤ R.frames ∧ 8 + (2 + 11) + 90 ≤ R.locals) (hls : ls.size = nL) (hrm : (rest.map fun v => v.category).sum ≤ 8) (hdg : decode cc pc = .ok (.invokevirtual index, 3)) (kk : ∀ (H1 : Heap) (locs1 : List Loc), va_P g.1 vwCl (tl_W g σo) H1 → va_S (tl_A g) H0 H1 locs1 → W p l e R s m args below meth c H1 locs1 0 0 Q (F0 m (pc + 3) ls (.int ro :: rest))) : W p l e R s m args below meth c H locs 0 0 Q (F0 m pc ls (.int a1 :: .ref (tl_ad g 34) :: rest)) :=
  tl_goi (tl_callV C hts hP (okX4_step l g C.2.2.2.2.2.2.2 σ a1 ro σo h) rfl rfl rfl (n := 1) (by decide +kernel) rfl (ci := 4) rfl (tl_kM g σ) hG hR hls rfl hrm hdg) hS kk
abbrev rX4_aheadOf : Room := { frames := 3, cells := 0, slots := 0, locals := 70 }
set_option maxHeartbeats 4000000 in
set_option maxRecDepth 100000 in
theorem okX4_aheadOf (l : Launch) (g : tl_G) (hI : tl_I g) (σ : tl_St) (a1 : Int32) (ro : Int32) (σo : tl_St) (h : fX4_aheadOf σ a1 = some (ro, σo)) : Met l yX4_aheadOf wsX4_aheadOf rX4_aheadOf (va_Pc [.ref (tl_ad g 34), .int a1] (tl_Pre g σ)) (tl_Qi g ro σo) 0 0 (tl_A g) := by
  refine tl_enter (cc := cX4_aheadOf) (maxL := 5) (ret := (some .int)) (own := RX4) hI (by decide) rfl rfl (Nat.le_of_ble_eq_true rfl) ?_
  intro p e s m below meth c C hts H locs hP hS ls hl
  have hx := C.1
  have hb := C.2.1
  have hl : lv_has ls 5 [(0, .ref (tl_ad g 34)), (1, .int a1)] := hl
  have hc4 : ∀ w ∈ u_ws RX4 TX4 30, w.before [.ref (tl_ad g 34), .int a1].toArray s = true := fun w hw => hts w (List.mem_cons_of_mem _ (List.mem_append_right _ hw))
  have lk0 : (Cond.fieldLink RX4 90 "ThriftLockModel" "full" "Z").before [.ref (tl_ad g 34), .int a1].toArray s = true := hts _ (List.mem_cons_of_mem _ (List.mem_append_left _ (List.mem_append_left _ (List.mem_of_getElem? (i := 0) rfl))))
  have lk1 : (Cond.fieldLink RX4 159 "ThriftLockModel" "without" "I").before [.ref (tl_ad g 34), .int a1].toArray s = true := hts _ (List.mem_cons_of_mem _ (List.mem_append_left _ (List.mem_append_left _ (List.mem_of_getElem? (i := 1) rfl))))
  unfold fX4_aheadOf at h
  refine lv_aload_n (pc := 0) hx hb dX4_aheadOf_0 rfl (lv_at hl 0 rfl) ?_
  obtain ⟨σ1, eσ1, h⟩ := tl_o1s h
  refine caX4_keeps (pc := 1) C hts hP hS eσ1 gX4_aheadOf_X4_keeps ⟨Nat.le_of_ble_eq_true rfl, Nat.le_of_ble_eq_true rfl⟩ hl.1 (Nat.le_of_ble_eq_true rfl) dX4_aheadOf_1 (fun H locs hP hS => ?_)
  refine lv_iconst (pc := 4) (v := 0) hx hb dX4_aheadOf_4 (by decide) ?_
  refine lv_istore_n (pc := 5) (lv' := [(2, .int 0), (0, .ref (tl_ad g 34)), (1, .int a1)]) hx hb dX4_aheadOf_5 rfl hl (by decide) rfl (fun ls hl => ?_)
  refine lv_iconst (pc := 6) (v := 0) hx hb dX4_aheadOf_6 (by decide) ?_
  refine lv_istore_n (pc := 7) (lv' := [(3, .int 0), (2, .int 0), (0, .ref (tl_ad g 34)), (1, .int a1)]) hx hb dX4_aheadOf_7 rfl hl (by decide) rfl (fun ls hl => ?_)
  obtain ⟨k4, ek4, h⟩ := tl_j2 h
  have hZ4 : ∀ (σ2 : tl_St) (x3 : Int32) (H : Heap) (locs : List Loc) (ls : Array Slot), k4 σ2 x3 = some (ro, σo) → va_P g.1 vwCl (tl_W g σ2) H → va_S (tl_A g) s.heap H locs → lv_has ls 5 [(0, .ref (tl_ad g 34)), (2, .int x3)] → W p l e rX4_aheadOf s m [.ref (tl_ad g 34), .int a1].toArray below meth c H locs 0 0 (MQ below (tl_Qi g ro σo) [.ref (tl_ad g 34), .int a1].toArray s 0 0 (tl_A g)) (F0 m 53 ls []) := by
    intro σ2 x3 H locs ls h hP hS hl
    replace h := (ek4 σ2 x3).trans h
    refine lv_aload_n (pc := 53) hx hb dX4_aheadOf_53 rfl (lv_at hl 0 rfl) ?_
    obtain ⟨σ5, eσ5, h⟩ := tl_o1s h
    refine caX4_takesBack (pc := 54) C hts hP hS eσ5 gX4_aheadOf_X4_takesBack ⟨Nat.le_of_ble_eq_true rfl, Nat.le_of_ble_eq_true rfl⟩ hl.1 (Nat.le_of_ble_eq_true rfl) dX4_aheadOf_54 (fun H locs hP hS => ?_)
    refine lv_iload_n (pc := 57) hx hb dX4_aheadOf_57 rfl (lv_at hl 1 rfl) ?_
    exact tl_Ripw (pc := 58) C h hP hS dX4_aheadOf_58
  have hL8 : ∀ (n : Nat) (σ6 : tl_St) (x7 : Int32) (x8 : Int32) (H : Heap) (locs : List Loc) (ls : Array Slot), fX4_aheadOf_L8 a1 k4 n σ6 x7 x8 = some (ro, σo) → va_P g.1 vwCl (tl_W g σ6) H → va_S (tl_A g) s.heap H locs → lv_has ls 5 [(0, .ref (tl_ad g 34)), (1, .int a1), (2, .int x7), (3, .int x8)] → W p l e rX4_aheadOf s m [.ref (tl_ad g 34), .int a1].toArray below meth c H locs 0 0 (MQ below (tl_Qi g ro σo) [.ref (tl_ad g 34), .int a1].toArray s 0 0 (tl_A g)) (F0 m 8 ls []) := by
    intro n
    induction n with
    | zero =>
      intro σ6 x7 x8 H locs ls h hP hS hl
      rw [fX4_aheadOf_L8] at h
      cases h
    | succ n ih =>
      intro σ6 x7 x8 H locs ls h hP hS hl
      rw [fX4_aheadOf_L8] at h
      refine lv_iload_n (pc := 8) hx hb dX4_aheadOf_8 rfl (lv_at hl 3 rfl) ?_
      refine lv_iload_n (pc := 9) hx hb dX4_aheadOf_9 rfl (lv_at hl 1 rfl) ?_
      refine lv_icmp_ge (pc := 10) (tgt := 53) hx hb dX4_aheadOf_10 (by decide) (fun c9 => ?_) (fun c9 => ?_)
      · replace h := (if_pos c9).symm.trans h
        exact hZ4 σ6 x7 _ _ _ h hP hS (lv_sub hl [0, 2] rfl)
      · replace h := (if_neg c9).symm.trans h
        refine lv_aload_n (pc := 13) hx hb dX4_aheadOf_13 rfl (lv_at hl 0 rfl) ?_
        refine tl_gM_6 (pc := 14) C hc4 hP lk0 dX4_aheadOf_14 ?_
        obtain ⟨k11, ek11, h⟩ := tl_j1 h
        have hJ11 : ∀ (x10 : Int32) (H : Heap) (locs : List Loc) (ls : Array Slot), k11 x10 = some (ro, σo) → va_P g.1 vwCl (tl_W g σ6) H → va_S (tl_A g) s.heap H locs → lv_has ls 5 [(0, .ref (tl_ad g 34)), (1, .int a1), (2, .int x7), (3, .int x8)] → W p l e rX4_aheadOf s m [.ref (tl_ad g 34), .int a1].toArray below meth c H locs 0 0 (MQ below (tl_Qi g ro σo) [.ref (tl_ad g 34), .int a1].toArray s 0 0 (tl_A g)) (F0 m 25 ls [.int x10]) := by
          intro x10 H locs ls h hP hS hl
          replace h := (ek11 x10).trans h
          refine lv_istore (pc := 25) (lv' := [(4, .int x10), (0, .ref (tl_ad g 34)), (1, .int a1), (2, .int x7), (3, .int x8)]) hx hb dX4_aheadOf_25 hl (by decide) rfl (fun ls hl => ?_)
          refine lv_aload_n (pc := 27) hx hb dX4_aheadOf_27 rfl (lv_at hl 1 rfl) ?_
          obtain ⟨σ12, eσ12, h⟩ := tl_o1s h
          refine caX4_moves (pc := 28) C hts hP hS eσ12 gX4_aheadOf_X4_moves ⟨Nat.le_of_ble_eq_true rfl, Nat.le_of_ble_eq_true rfl⟩ hl.1 (Nat.le_of_ble_eq_true rfl) dX4_aheadOf_28 (fun H locs hP hS => ?_)
          refine lv_iload_n (pc := 31) hx hb dX4_aheadOf_31 rfl (lv_at hl 3 rfl) ?_
          refine lv_iload (pc := 32) hx hb dX4_aheadOf_32 (lv_at hl 0 rfl) ?_
          obtain ⟨k14, ek14, h⟩ := tl_j1 h
          have hJ14 : ∀ (x13 : Int32) (H : Heap) (locs : List Loc) (ls : Array Slot), k14 x13 = some (ro, σo) → va_P g.1 vwCl (tl_W g σ12) H → va_S (tl_A g) s.heap H locs → lv_has ls 5 [(0, .ref (tl_ad g 34)), (1, .int a1), (3, .int x8)] → W p l e rX4_aheadOf s m [.ref (tl_ad g 34), .int a1].toArray below meth c H locs 0 0 (MQ below (tl_Qi g ro σo) [.ref (tl_ad g 34), .int a1].toArray s 0 0 (tl_A g)) (F0 m 45 ls [.int x13, .int x7]) := by
            intro x13 H locs ls h hP hS hl
            replace h := (ek14 x13).trans h
            refine lv_iadd (pc := 45) hx hb dX4_aheadOf_45 ?_
            obtain ⟨x15, ex15, h⟩ := tl_nm h
            refine tl_ti ex15 ?_
            refine lv_istore_n (pc := 46) (lv' := [(2, .int x15), (0, .ref (tl_ad g 34)), (1, .int a1), (3, .int x8)]) hx hb dX4_aheadOf_46 rfl hl (by decide) rfl (fun ls hl => ?_)
            obtain ⟨x16, ex16, h⟩ := tl_nm h
            refine lv_iinc (pc := 47) (v := x16) (lv' := [(3, .int x16), (2, .int x15), (0, .ref (tl_ad g 34)), (1, .int a1)]) hx hb dX4_aheadOf_47 hl (k := 3) rfl ex16 (by decide) rfl (fun ls hl => ?_)
            refine lv_goto (pc := 50) (tgt := 8) hx hb dX4_aheadOf_50 (by decide) ?_
            exact ih σ12 x15 x16 _ _ _ h hP hS (lv_sub hl [2, 3, 1, 0] rfl)
          refine lv_if_eq (pc := 34) (tgt := 44) hx hb dX4_aheadOf_34 (by decide) (fun c17 => ?_) (fun c17 => ?_)
          · replace h := (if_pos c17).symm.trans h
            refine lv_iconst (pc := 44) (v := 0) hx hb dX4_aheadOf_44 (by decide) ?_
            exact hJ14 0 _ _ _ h hP hS (lv_sub hl [1, 2, 4] rfl)
          · replace h := (if_neg c17).symm.trans h
            refine lv_aload_n (pc := 37) hx hb dX4_aheadOf_37 rfl (lv_at hl 1 rfl) ?_
            refine tl_gM_20 (pc := 38) C hc4 hP lk1 dX4_aheadOf_38 ?_
            refine lv_goto (pc := 41) (tgt := 45) hx hb dX4_aheadOf_41 (by decide) ?_
            exact hJ14 (σ12 34 20) _ _ _ h hP hS (lv_sub hl [1, 2, 4] rfl)
        refine lv_if_ne (pc := 17) (tgt := 24) hx hb dX4_aheadOf_17 (by decide) (fun c18 => ?_) (fun c18 => ?_)
        · replace h := (if_neg c18).symm.trans h
          refine lv_iconst (pc := 24) (v := 0) hx hb dX4_aheadOf_24 (by decide) ?_
          exact hJ11 0 _ _ _ h hP hS (lv_sub hl [0, 1, 2, 3] rfl)
        · replace h := (if_pos c18).symm.trans h
          refine lv_iconst (pc := 20) (v := 1) hx hb dX4_aheadOf_20 (by decide) ?_
          refine lv_goto (pc := 21) (tgt := 25) hx hb dX4_aheadOf_21 (by decide) ?_
          exact hJ11 1 _ _ _ h hP hS (lv_sub hl [0, 1, 2, 3] rfl)
  exact hL8 1000 σ1 0 0 _ _ _ h hP hS (lv_sub hl [2, 3, 1, 0] rfl)
theorem caX4_aheadOf {p : Program} {l : Launch} {e : Env} {R : Room} {s : State} {m : MethodId} {args : Array Value} {below : List Frame} {meth : Method} {c : Code} {H : Heap} {locs : List Loc} {Q : State → Prop} {cc : ByteArray} {pc : Nat} {ls : Array Slot} {rest : List Value} {g : tl_G} {σ : tl_St} {H0 : Heap} {nL : Nat} {own : String} {ret : Option FieldType} {index : Nat} (C : tl_C p s m meth c cc nL own ret g) {Ts : List Cond} (hts : ∀ w ∈ Ts, w.before args s = true) (hP : va_P g.1 vwCl (tl_W g σ) H) (hS : va_S (tl_A g) H0 H locs) {a1 : Int32} {ro : Int32} {σo : tl_St} (h : fX4_aheadOf σ a1 = some (ro, σo)) (hG : GoodIn Ts (wsV own index RX4 yX4_aheadOf wsX4_aheadOf)) (hR : 3 + 1 ≤ R.frames ∧ 8 + (5 + 11) + 70 ≤ R.locals) (hls : ls.size = nL) (hrm : (rest.map fun v => v.category).sum ≤ 8) (hdg : decode cc pc = .ok (.invokevirtual index, 3)) (kk : ∀ (H1 : Heap) (locs1 : List Loc), va_P g.1 vwCl (tl_W g σo) H1 → va_S (tl_A g) H0 H1 locs1 → W p l e R s m args below meth c H1 locs1 0 0 Q (F0 m (pc + 3) ls (.int ro :: rest))) : W p l e R s m args below meth c H locs 0 0 Q (F0 m pc ls (.int a1 :: .ref (tl_ad g 34) :: rest)) :=
  tl_goi (tl_callV C hts hP (okX4_aheadOf l g C.2.2.2.2.2.2.2 σ a1 ro σo h) rfl rfl rfl (n := 1) (by decide +kernel) rfl (ci := 4) rfl (tl_kM g σ) hG hR hls rfl hrm hdg) hS kk
abbrev rX4_ahead : Room := { frames := 4, cells := 0, slots := 0, locals := 94 }
set_option maxHeartbeats 4000000 in
set_option maxRecDepth 100000 in
theorem okX4_ahead (l : Launch) (g : tl_G) (hI : tl_I g) (σ : tl_St) (a1 : Int32) (ro : Int32) (σo : tl_St) (h : fX4_ahead σ a1 = some (ro, σo)) : Met l yX4_ahead wsX4_ahead rX4_ahead (va_Pc [.ref (tl_ad g 34), .int a1] (tl_Pre g σ)) (tl_Qi g ro σo) 0 0 (tl_A g) := by
  refine tl_enter (cc := cX4_ahead) (maxL := 2) (ret := (some .int)) (own := RX4) hI (by decide) rfl rfl (Nat.le_of_ble_eq_true rfl) ?_
  intro p e s m below meth c C hts H locs hP hS ls hl
  have hx := C.1
  have hb := C.2.1
  have hl : lv_has ls 2 [(0, .ref (tl_ad g 34)), (1, .int a1)] := hl
  have lk0 : (Cond.constantLong RX4 218 (40)).before [.ref (tl_ad g 34), .int a1].toArray s = true := hts _ (List.mem_cons_of_mem _ (List.mem_append_left _ (List.mem_append_left _ (List.mem_of_getElem? (i := 0) rfl))))
  unfold fX4_ahead at h
  refine lv_iload_n (pc := 0) hx hb dX4_ahead_0 rfl (lv_at hl 1 rfl) ?_
  refine lv_i2l (pc := 1) hx hb dX4_ahead_1 rfl ?_
  refine lv_lconst (pc := 2) (v := 0) hx hb dX4_ahead_2 (by decide) ?_
  refine lv_ldc2 (pc := 3) (v := 40) hx hb C.2.2.2.1 lk0 dX4_ahead_3 ?_
  obtain ⟨r1, er1, h⟩ := tl_nm h
  refine caX4_in (pc := 6) C hts hP hS er1 gX4_ahead_X4_in ⟨Nat.le_of_ble_eq_true rfl, Nat.le_of_ble_eq_true rfl⟩ hl.1 (Nat.le_of_ble_eq_true rfl) dX4_ahead_6 (fun H locs hP hS => ?_)
  refine lv_if_eq (pc := 9) (tgt := 20) hx hb dX4_ahead_9 (by decide) (fun c2 => ?_) (fun c2 => ?_)
  · replace h := (if_pos c2).symm.trans h
    refine lv_bipush (pc := 20) (v := (-2)) hx hb dX4_ahead_20 (by decide) ?_
    exact tl_Ripw (pc := 22) C h hP hS dX4_ahead_22
  · replace h := (if_neg c2).symm.trans h
    refine lv_aload_n (pc := 12) hx hb dX4_ahead_12 rfl (lv_at hl 0 rfl) ?_
    refine lv_iload_n (pc := 13) hx hb dX4_ahead_13 rfl (lv_at hl 1 rfl) ?_
    obtain ⟨r3, σ4, er3, h⟩ := tl_o2s h
    refine caX4_aheadOf (pc := 14) C hts hP hS er3 gX4_ahead_X4_aheadOf ⟨Nat.le_of_ble_eq_true rfl, Nat.le_of_ble_eq_true rfl⟩ hl.1 (Nat.le_of_ble_eq_true rfl) dX4_ahead_14 (fun H locs hP hS => ?_)
    refine lv_goto (pc := 17) (tgt := 22) hx hb dX4_ahead_17 (by decide) ?_
    exact tl_Ripw (pc := 22) C h hP hS dX4_ahead_22
theorem caX4_ahead {p : Program} {l : Launch} {e : Env} {R : Room} {s : State} {m : MethodId} {args : Array Value} {below : List Frame} {meth : Method} {c : Code} {H : Heap} {locs : List Loc} {Q : State → Prop} {cc : ByteArray} {pc : Nat} {ls : Array Slot} {rest : List Value} {g : tl_G} {σ : tl_St} {H0 : Heap} {nL : Nat} {own : String} {ret : Option FieldType} {index : Nat} (C : tl_C p s m meth c cc nL own ret g) {Ts : List Cond} (hts : ∀ w ∈ Ts, w.before args s = true) (hP : va_P g.1 vwCl (tl_W g σ) H) (hS : va_S (tl_A g) H0 H locs) {a1 : Int32} {ro : Int32} {σo : tl_St} (h : fX4_ahead σ a1 = some (ro, σo)) (hG : GoodIn Ts (wsV own index RX4 yX4_ahead wsX4_ahead)) (hR : 4 + 1 ≤ R.frames ∧ 8 + (2 + 11) + 94 ≤ R.locals) (hls : ls.size = nL) (hrm : (rest.map fun v => v.category).sum ≤ 8) (hdg : decode cc pc = .ok (.invokevirtual index, 3)) (kk : ∀ (H1 : Heap) (locs1 : List Loc), va_P g.1 vwCl (tl_W g σo) H1 → va_S (tl_A g) H0 H1 locs1 → W p l e R s m args below meth c H1 locs1 0 0 Q (F0 m (pc + 3) ls (.int ro :: rest))) : W p l e R s m args below meth c H locs 0 0 Q (F0 m pc ls (.int a1 :: .ref (tl_ad g 34) :: rest)) :=
  tl_goi (tl_callV C hts hP (okX4_ahead l g C.2.2.2.2.2.2.2 σ a1 ro σo h) rfl rfl rfl (n := 1) (by decide +kernel) rfl (ci := 4) rfl (tl_kM g σ) hG hR hls rfl hrm hdg) hS kk
abbrev rX4_betterBy : Room := { frames := 4, cells := 0, slots := 0, locals := 94 }
set_option maxHeartbeats 4000000 in
set_option maxRecDepth 100000 in
theorem okX4_betterBy (l : Launch) (g : tl_G) (hI : tl_I g) (σ : tl_St) (a1 : Int32) (a2 : Int32) (ro : Int32) (σo : tl_St) (h : fX4_betterBy σ a1 a2 = some (ro, σo)) : Met l yX4_betterBy wsX4_betterBy rX4_betterBy (va_Pc [.ref (tl_ad g 34), .int a1, .int a2] (tl_Pre g σ)) (tl_Qi g ro σo) 0 0 (tl_A g) := by
  refine tl_enter (cc := cX4_betterBy) (maxL := 8) (ret := (some .int)) (own := RX4) hI (by decide) rfl rfl (Nat.le_of_ble_eq_true rfl) ?_
  intro p e s m below meth c C hts H locs hP hS ls hl
  have hx := C.1
  have hb := C.2.1
  have hl : lv_has ls 8 [(0, .ref (tl_ad g 34)), (1, .int a1), (2, .int a2)] := hl
  have hc4 : ∀ w ∈ u_ws RX4 TX4 30, w.before [.ref (tl_ad g 34), .int a1, .int a2].toArray s = true := fun w hw => hts w (List.mem_cons_of_mem _ (List.mem_append_right _ hw))
  have lk0 : (Cond.fieldLink RX4 22 "ThriftLockModel" "bottom" "[I").before [.ref (tl_ad g 34), .int a1, .int a2].toArray s = true := hts _ (List.mem_cons_of_mem _ (List.mem_append_left _ (List.mem_append_left _ (List.mem_of_getElem? (i := 0) rfl))))
  have lk1 : (Cond.constant RX4 155 (999999)).before [.ref (tl_ad g 34), .int a1, .int a2].toArray s = true := hts _ (List.mem_cons_of_mem _ (List.mem_append_left _ (List.mem_append_left _ (List.mem_of_getElem? (i := 1) rfl))))
  unfold fX4_betterBy at h
  refine lv_aload_n (pc := 0) hx hb dX4_betterBy_0 rfl (lv_at hl 0 rfl) ?_
  refine tl_gM_8 (pc := 1) C hc4 hP lk0 dX4_betterBy_1 ?_
  refine lv_iload_n (pc := 4) hx hb dX4_betterBy_4 rfl (lv_at hl 1 rfl) ?_
  obtain ⟨g1, h⟩ := tl_gd h
  refine tl_ald (pc := 5) C hP (tl_a39 g) g1 dX4_betterBy_5 ?_
  obtain ⟨x2, ex2, h⟩ := tl_nm h
  refine tl_ti ex2 ?_
  refine lv_istore_n (pc := 6) (lv' := [(3, .int x2), (0, .ref (tl_ad g 34)), (1, .int a1), (2, .int a2)]) hx hb dX4_betterBy_6 rfl hl (by decide) rfl (fun ls hl => ?_)
  refine lv_iconst (pc := 7) (v := (-1)) hx hb dX4_betterBy_7 (by decide) ?_
  refine lv_istore (pc := 8) (lv' := [(4, .int (-1)), (3, .int x2), (0, .ref (tl_ad g 34)), (1, .int a1), (2, .int a2)]) hx hb dX4_betterBy_8 hl (by decide) rfl (fun ls hl => ?_)
  refine lv_ldc (pc := 10) (v := 999999) hx hb C.2.2.2.1 lk1 dX4_betterBy_10 ?_
  refine lv_istore (pc := 12) (lv' := [(5, .int 999999), (4, .int (-1)), (3, .int x2), (0, .ref (tl_ad g 34)), (1, .int a1), (2, .int a2)]) hx hb dX4_betterBy_12 hl (by decide) rfl (fun ls hl => ?_)
  refine lv_iconst (pc := 14) (v := 0) hx hb dX4_betterBy_14 (by decide) ?_
  refine lv_istore (pc := 15) (lv' := [(6, .int 0), (5, .int 999999), (4, .int (-1)), (3, .int x2), (0, .ref (tl_ad g 34)), (1, .int a1), (2, .int a2)]) hx hb dX4_betterBy_15 hl (by decide) rfl (fun ls hl => ?_)
  obtain ⟨k6, ek6, h⟩ := tl_j3 h
  have hZ6 : ∀ (σ3 : tl_St) (x4 : Int32) (x5 : Int32) (H : Heap) (locs : List Loc) (ls : Array Slot), k6 σ3 x4 x5 = some (ro, σo) → va_P g.1 vwCl (tl_W g σ3) H → va_S (tl_A g) s.heap H locs → lv_has ls 8 [(0, .ref (tl_ad g 34)), (1, .int a1), (2, .int a2), (3, .int x2), (4, .int x4), (5, .int x5)] → W p l e rX4_betterBy s m [.ref (tl_ad g 34), .int a1, .int a2].toArray below meth c H locs 0 0 (MQ below (tl_Qi g ro σo) [.ref (tl_ad g 34), .int a1, .int a2].toArray s 0 0 (tl_A g)) (F0 m 71 ls []) := by
    intro σ3 x4 x5 H locs ls h hP hS hl
    replace h := (ek6 σ3 x4 x5).trans h
    refine lv_aload_n (pc := 71) hx hb dX4_betterBy_71 rfl (lv_at hl 0 rfl) ?_
    refine tl_gM_8 (pc := 72) C hc4 hP lk0 dX4_betterBy_72 ?_
    refine lv_iload_n (pc := 75) hx hb dX4_betterBy_75 rfl (lv_at hl 1 rfl) ?_
    refine lv_iload_n (pc := 76) hx hb dX4_betterBy_76 rfl (lv_at hl 3 rfl) ?_
    obtain ⟨g7, h⟩ := tl_gd h
    obtain ⟨σ8, eσ8, h⟩ := tl_nm h
    refine tl_ast (pc := 77) C hP hS (tl_a39 g) g7 eσ8 dX4_betterBy_77 (fun H locs hP hS => ?_)
    refine lv_iload_n (pc := 78) hx hb dX4_betterBy_78 rfl (lv_at hl 2 rfl) ?_
    refine lv_if_ne (pc := 79) (tgt := 87) hx hb dX4_betterBy_79 (by decide) (fun c9 => ?_) (fun c9 => ?_)
    · replace h := (if_neg c9).symm.trans h
      refine lv_iload (pc := 87) hx hb dX4_betterBy_87 (lv_at hl 5 rfl) ?_
      exact tl_Ripw (pc := 89) C h hP hS dX4_betterBy_89
    · replace h := (if_pos c9).symm.trans h
      refine lv_iload (pc := 82) hx hb dX4_betterBy_82 (lv_at hl 4 rfl) ?_
      refine lv_goto (pc := 84) (tgt := 89) hx hb dX4_betterBy_84 (by decide) ?_
      exact tl_Ripw (pc := 89) C h hP hS dX4_betterBy_89
  have hL17 : ∀ (n : Nat) (σ10 : tl_St) (x11 : Int32) (x12 : Int32) (x13 : Int32) (H : Heap) (locs : List Loc) (ls : Array Slot), fX4_betterBy_L17 a1 k6 n σ10 x11 x12 x13 = some (ro, σo) → va_P g.1 vwCl (tl_W g σ10) H → va_S (tl_A g) s.heap H locs → lv_has ls 8 [(0, .ref (tl_ad g 34)), (1, .int a1), (2, .int a2), (3, .int x2), (4, .int x11), (5, .int x12), (6, .int x13)] → W p l e rX4_betterBy s m [.ref (tl_ad g 34), .int a1, .int a2].toArray below meth c H locs 0 0 (MQ below (tl_Qi g ro σo) [.ref (tl_ad g 34), .int a1, .int a2].toArray s 0 0 (tl_A g)) (F0 m 17 ls []) := by
    intro n
    induction n with
    | zero =>
      intro σ10 x11 x12 x13 H locs ls h hP hS hl
      rw [fX4_betterBy_L17] at h
      cases h
    | succ n ih =>
      intro σ10 x11 x12 x13 H locs ls h hP hS hl
      rw [fX4_betterBy_L17] at h
      refine lv_iload (pc := 17) hx hb dX4_betterBy_17 (lv_at hl 6 rfl) ?_
      refine lv_bipush (pc := 19) (v := 60) hx hb dX4_betterBy_19 (by decide) ?_
      refine lv_icmp_ge (pc := 21) (tgt := 71) hx hb dX4_betterBy_21 (by decide) (fun c14 => ?_) (fun c14 => ?_)
      · replace h := (if_pos c14).symm.trans h
        exact hZ6 σ10 x11 x12 _ _ _ h hP hS (lv_sub hl [0, 1, 2, 3, 4, 5] rfl)
      · replace h := (if_neg c14).symm.trans h
        refine lv_aload_n (pc := 24) hx hb dX4_betterBy_24 rfl (lv_at hl 0 rfl) ?_
        refine tl_gM_8 (pc := 25) C hc4 hP lk0 dX4_betterBy_25 ?_
        refine lv_iload_n (pc := 28) hx hb dX4_betterBy_28 rfl (lv_at hl 1 rfl) ?_
        refine lv_iload (pc := 29) hx hb dX4_betterBy_29 (lv_at hl 6 rfl) ?_
        obtain ⟨g15, h⟩ := tl_gd h
        obtain ⟨σ16, eσ16, h⟩ := tl_nm h
        refine tl_ast (pc := 31) C hP hS (tl_a39 g) g15 eσ16 dX4_betterBy_31 (fun H locs hP hS => ?_)
        refine lv_aload_n (pc := 32) hx hb dX4_betterBy_32 rfl (lv_at hl 0 rfl) ?_
        refine lv_bipush (pc := 33) (v := 10) hx hb dX4_betterBy_33 (by decide) ?_
        obtain ⟨r17, σ18, er17, h⟩ := tl_o2s h
        refine caX4_aheadOf (pc := 35) C hts hP hS er17 gX4_betterBy_X4_aheadOf ⟨Nat.le_of_ble_eq_true rfl, Nat.le_of_ble_eq_true rfl⟩ hl.1 (Nat.le_of_ble_eq_true rfl) dX4_betterBy_35 (fun H locs hP hS => ?_)
        refine lv_istore (pc := 38) (lv' := [(7, .int r17), (0, .ref (tl_ad g 34)), (1, .int a1), (2, .int a2), (3, .int x2), (4, .int x11), (5, .int x12), (6, .int x13)]) hx hb dX4_betterBy_38 hl (by decide) rfl (fun ls hl => ?_)
        refine lv_iload (pc := 40) hx hb dX4_betterBy_40 (lv_at hl 0 rfl) ?_
        refine lv_iload (pc := 42) hx hb dX4_betterBy_42 (lv_at hl 6 rfl) ?_
        obtain ⟨k20, ek20, h⟩ := tl_j1 h
        have hJ20 : ∀ (x19 : Int32) (H : Heap) (locs : List Loc) (ls : Array Slot), k20 x19 = some (ro, σo) → va_P g.1 vwCl (tl_W g σ18) H → va_S (tl_A g) s.heap H locs → lv_has ls 8 [(0, .ref (tl_ad g 34)), (1, .int a1), (2, .int a2), (3, .int x2), (5, .int x12), (6, .int x13), (7, .int r17)] → W p l e rX4_betterBy s m [.ref (tl_ad g 34), .int a1, .int a2].toArray below meth c H locs 0 0 (MQ below (tl_Qi g ro σo) [.ref (tl_ad g 34), .int a1, .int a2].toArray s 0 0 (tl_A g)) (F0 m 54 ls [.int x19]) := by
          intro x19 H locs ls h hP hS hl
          replace h := (ek20 x19).trans h
          refine lv_istore (pc := 54) (lv' := [(4, .int x19), (0, .ref (tl_ad g 34)), (1, .int a1), (2, .int a2), (3, .int x2), (5, .int x12), (6, .int x13), (7, .int r17)]) hx hb dX4_betterBy_54 hl (by decide) rfl (fun ls hl => ?_)
          refine lv_iload (pc := 56) hx hb dX4_betterBy_56 (lv_at hl 7 rfl) ?_
          refine lv_iload (pc := 58) hx hb dX4_betterBy_58 (lv_at hl 5 rfl) ?_
          obtain ⟨r21, er21, h⟩ := tl_nm h
          refine caX4_lesser (pc := 60) C hts hP hS er21 gX4_betterBy_X4_lesser ⟨Nat.le_of_ble_eq_true rfl, Nat.le_of_ble_eq_true rfl⟩ hl.1 (Nat.le_of_ble_eq_true rfl) dX4_betterBy_60 (fun H locs hP hS => ?_)
          refine lv_istore (pc := 63) (lv' := [(5, .int r21), (4, .int x19), (0, .ref (tl_ad g 34)), (1, .int a1), (2, .int a2), (3, .int x2), (6, .int x13), (7, .int r17)]) hx hb dX4_betterBy_63 hl (by decide) rfl (fun ls hl => ?_)
          obtain ⟨x22, ex22, h⟩ := tl_nm h
          refine lv_iinc (pc := 65) (v := x22) (lv' := [(6, .int x22), (5, .int r21), (4, .int x19), (0, .ref (tl_ad g 34)), (1, .int a1), (2, .int a2), (3, .int x2), (7, .int r17)]) hx hb dX4_betterBy_65 hl (k := 6) rfl ex22 (by decide) rfl (fun ls hl => ?_)
          refine lv_goto (pc := 68) (tgt := 17) hx hb dX4_betterBy_68 (by decide) ?_
          exact ih σ18 x19 r21 x22 _ _ _ h hP hS (lv_sub hl [3, 4, 5, 6, 2, 1, 0] rfl)
        refine lv_icmp_ge (pc := 44) (tgt := 52) hx hb dX4_betterBy_44 (by decide) (fun c23 => ?_) (fun c23 => ?_)
        · replace h := (if_pos c23).symm.trans h
          refine lv_iload (pc := 52) hx hb dX4_betterBy_52 (lv_at hl 5 rfl) ?_
          exact hJ20 x11 _ _ _ h hP hS (lv_sub hl [1, 2, 3, 4, 6, 7, 0] rfl)
        · replace h := (if_neg c23).symm.trans h
          refine lv_iload (pc := 47) hx hb dX4_betterBy_47 (lv_at hl 7 rfl) ?_
          refine lv_goto (pc := 49) (tgt := 54) hx hb dX4_betterBy_49 (by decide) ?_
          exact hJ20 x13 _ _ _ h hP hS (lv_sub hl [1, 2, 3, 4, 6, 7, 0] rfl)
  exact hL17 1000 σ (-1) 999999 0 _ _ _ h hP hS (lv_sub hl [4, 5, 6, 3, 2, 1, 0] rfl)
theorem caX4_betterBy {p : Program} {l : Launch} {e : Env} {R : Room} {s : State} {m : MethodId} {args : Array Value} {below : List Frame} {meth : Method} {c : Code} {H : Heap} {locs : List Loc} {Q : State → Prop} {cc : ByteArray} {pc : Nat} {ls : Array Slot} {rest : List Value} {g : tl_G} {σ : tl_St} {H0 : Heap} {nL : Nat} {own : String} {ret : Option FieldType} {index : Nat} (C : tl_C p s m meth c cc nL own ret g) {Ts : List Cond} (hts : ∀ w ∈ Ts, w.before args s = true) (hP : va_P g.1 vwCl (tl_W g σ) H) (hS : va_S (tl_A g) H0 H locs) {a1 : Int32} {a2 : Int32} {ro : Int32} {σo : tl_St} (h : fX4_betterBy σ a1 a2 = some (ro, σo)) (hG : GoodIn Ts (wsV own index RX4 yX4_betterBy wsX4_betterBy)) (hR : 4 + 1 ≤ R.frames ∧ 8 + (8 + 11) + 94 ≤ R.locals) (hls : ls.size = nL) (hrm : (rest.map fun v => v.category).sum ≤ 8) (hdg : decode cc pc = .ok (.invokevirtual index, 3)) (kk : ∀ (H1 : Heap) (locs1 : List Loc), va_P g.1 vwCl (tl_W g σo) H1 → va_S (tl_A g) H0 H1 locs1 → W p l e R s m args below meth c H1 locs1 0 0 Q (F0 m (pc + 3) ls (.int ro :: rest))) : W p l e R s m args below meth c H locs 0 0 Q (F0 m pc ls (.int a2 :: .int a1 :: .ref (tl_ad g 34) :: rest)) :=
  tl_goi (tl_callV C hts hP (okX4_betterBy l g C.2.2.2.2.2.2.2 σ a1 a2 ro σo h) rfl rfl rfl (n := 2) (by decide +kernel) rfl (ci := 4) rfl (tl_kM g σ) hG hR hls rfl hrm hdg) hS kk
abbrev rX4_better : Room := { frames := 5, cells := 0, slots := 0, locals := 121 }
set_option maxHeartbeats 4000000 in
set_option maxRecDepth 100000 in
theorem okX4_better (l : Launch) (g : tl_G) (hI : tl_I g) (σ : tl_St) (a1 : Int32) (a2 : Int32) (ro : Int32) (σo : tl_St) (h : fX4_better σ a1 a2 = some (ro, σo)) : Met l yX4_better wsX4_better rX4_better (va_Pc [.ref (tl_ad g 34), .int a1, .int a2] (tl_Pre g σ)) (tl_Qi g ro σo) 0 0 (tl_A g) := by
  refine tl_enter (cc := cX4_better) (maxL := 3) (ret := (some .int)) (own := RX4) hI (by decide) rfl rfl (Nat.le_of_ble_eq_true rfl) ?_
  intro p e s m below meth c C hts H locs hP hS ls hl
  have hx := C.1
  have hb := C.2.1
  have hl : lv_has ls 3 [(0, .ref (tl_ad g 34)), (1, .int a1), (2, .int a2)] := hl
  unfold fX4_better at h
  refine lv_aload_n (pc := 0) hx hb dX4_better_0 rfl (lv_at hl 0 rfl) ?_
  refine lv_iload_n (pc := 1) hx hb dX4_better_1 rfl (lv_at hl 1 rfl) ?_
  obtain ⟨r1, er1, h⟩ := tl_nm h
  refine caX4_isBasin (pc := 2) C hts hP hS er1 gX4_better_X4_isBasin ⟨Nat.le_of_ble_eq_true rfl, Nat.le_of_ble_eq_true rfl⟩ hl.1 (Nat.le_of_ble_eq_true rfl) dX4_better_2 (fun H locs hP hS => ?_)
  obtain ⟨k2, ek2, h⟩ := tl_j0 h
  have hJ2 : ∀ (H : Heap) (locs : List Loc) (ls : Array Slot), k2 = some (ro, σo) → va_P g.1 vwCl (tl_W g σ) H → va_S (tl_A g) s.heap H locs → lv_has ls 3 [] → W p l e rX4_better s m [.ref (tl_ad g 34), .int a1, .int a2].toArray below meth c H locs 0 0 (MQ below (tl_Qi g ro σo) [.ref (tl_ad g 34), .int a1, .int a2].toArray s 0 0 (tl_A g)) (F0 m 24 ls []) := by
    intro H locs ls h hP hS hl
    replace h := ek2.trans h
    refine lv_bipush (pc := 24) (v := (-2)) hx hb dX4_better_24 (by decide) ?_
    exact tl_Ripw (pc := 26) C h hP hS dX4_better_26
  refine lv_if_eq (pc := 5) (tgt := 24) hx hb dX4_better_5 (by decide) (fun c3 => ?_) (fun c3 => ?_)
  · replace h := (if_pos c3).symm.trans h
    exact hJ2 _ _ _ h hP hS (lv_sub hl [] rfl)
  · replace h := (if_neg c3).symm.trans h
    refine lv_iload_n (pc := 8) hx hb dX4_better_8 rfl (lv_at hl 2 rfl) ?_
    obtain ⟨r4, er4, h⟩ := tl_nm h
    refine caX4_isTwo (pc := 9) C hts hP hS er4 gX4_better_X4_isTwo ⟨Nat.le_of_ble_eq_true rfl, Nat.le_of_ble_eq_true rfl⟩ hl.1 (Nat.le_of_ble_eq_true rfl) dX4_better_9 (fun H locs hP hS => ?_)
    refine lv_if_eq (pc := 12) (tgt := 24) hx hb dX4_better_12 (by decide) (fun c5 => ?_) (fun c5 => ?_)
    · replace h := (if_pos c5).symm.trans h
      exact hJ2 _ _ _ h hP hS (lv_sub hl [] rfl)
    · replace h := (if_neg c5).symm.trans h
      refine lv_aload_n (pc := 15) hx hb dX4_better_15 rfl (lv_at hl 0 rfl) ?_
      refine lv_iload_n (pc := 16) hx hb dX4_better_16 rfl (lv_at hl 1 rfl) ?_
      refine lv_iload_n (pc := 17) hx hb dX4_better_17 rfl (lv_at hl 2 rfl) ?_
      obtain ⟨r6, σ7, er6, h⟩ := tl_o2s h
      refine caX4_betterBy (pc := 18) C hts hP hS er6 gX4_better_X4_betterBy ⟨Nat.le_of_ble_eq_true rfl, Nat.le_of_ble_eq_true rfl⟩ hl.1 (Nat.le_of_ble_eq_true rfl) dX4_better_18 (fun H locs hP hS => ?_)
      refine lv_goto (pc := 21) (tgt := 26) hx hb dX4_better_21 (by decide) ?_
      exact tl_Ripw (pc := 26) C h hP hS dX4_better_26
theorem caX4_better {p : Program} {l : Launch} {e : Env} {R : Room} {s : State} {m : MethodId} {args : Array Value} {below : List Frame} {meth : Method} {c : Code} {H : Heap} {locs : List Loc} {Q : State → Prop} {cc : ByteArray} {pc : Nat} {ls : Array Slot} {rest : List Value} {g : tl_G} {σ : tl_St} {H0 : Heap} {nL : Nat} {own : String} {ret : Option FieldType} {index : Nat} (C : tl_C p s m meth c cc nL own ret g) {Ts : List Cond} (hts : ∀ w ∈ Ts, w.before args s = true) (hP : va_P g.1 vwCl (tl_W g σ) H) (hS : va_S (tl_A g) H0 H locs) {a1 : Int32} {a2 : Int32} {ro : Int32} {σo : tl_St} (h : fX4_better σ a1 a2 = some (ro, σo)) (hG : GoodIn Ts (wsV own index RX4 yX4_better wsX4_better)) (hR : 5 + 1 ≤ R.frames ∧ 8 + (3 + 11) + 121 ≤ R.locals) (hls : ls.size = nL) (hrm : (rest.map fun v => v.category).sum ≤ 8) (hdg : decode cc pc = .ok (.invokevirtual index, 3)) (kk : ∀ (H1 : Heap) (locs1 : List Loc), va_P g.1 vwCl (tl_W g σo) H1 → va_S (tl_A g) H0 H1 locs1 → W p l e R s m args below meth c H1 locs1 0 0 Q (F0 m (pc + 3) ls (.int ro :: rest))) : W p l e R s m args below meth c H locs 0 0 Q (F0 m pc ls (.int a2 :: .int a1 :: .ref (tl_ad g 34) :: rest)) :=
  tl_goi (tl_callV C hts hP (okX4_better l g C.2.2.2.2.2.2.2 σ a1 a2 ro σo h) rfl rfl rfl (n := 2) (by decide +kernel) rfl (ci := 4) rfl (tl_kM g σ) hG hR hls rfl hrm hdg) hS kk
abbrev rX4_needlessBy : Room := { frames := 4, cells := 0, slots := 0, locals := 94 }
set_option maxHeartbeats 4000000 in
set_option maxRecDepth 100000 in
theorem okX4_needlessBy (l : Launch) (g : tl_G) (hI : tl_I g) (σ : tl_St) (a1 : Int32) (ro : Int32) (σo : tl_St) (h : fX4_needlessBy σ a1 = some (ro, σo)) : Met l yX4_needlessBy wsX4_needlessBy rX4_needlessBy (va_Pc [.ref (tl_ad g 34), .int a1] (tl_Pre g σ)) (tl_Qi g ro σo) 0 0 (tl_A g) := by
  refine tl_enter (cc := cX4_needlessBy) (maxL := 6) (ret := (some .int)) (own := RX4) hI (by decide) rfl rfl (Nat.le_of_ble_eq_true rfl) ?_
  intro p e s m below meth c C hts H locs hP hS ls hl
  have hx := C.1
  have hb := C.2.1
  have hl : lv_has ls 6 [(0, .ref (tl_ad g 34)), (1, .int a1)] := hl
  have hc4 : ∀ w ∈ u_ws RX4 TX4 30, w.before [.ref (tl_ad g 34), .int a1].toArray s = true := fun w hw => hts w (List.mem_cons_of_mem _ (List.mem_append_right _ hw))
  have lk0 : (Cond.constant RX4 155 (999999)).before [.ref (tl_ad g 34), .int a1].toArray s = true := hts _ (List.mem_cons_of_mem _ (List.mem_append_left _ (List.mem_append_left _ (List.mem_of_getElem? (i := 0) rfl))))
  have lk1 : (Cond.fieldLink RX4 96 "ThriftLockModel" "basins" "I").before [.ref (tl_ad g 34), .int a1].toArray s = true := hts _ (List.mem_cons_of_mem _ (List.mem_append_left _ (List.mem_append_left _ (List.mem_of_getElem? (i := 1) rfl))))
  have lk2 : (Cond.fieldLink RX4 99 "ThriftLockModel" "out" "I").before [.ref (tl_ad g 34), .int a1].toArray s = true := hts _ (List.mem_cons_of_mem _ (List.mem_append_left _ (List.mem_append_left _ (List.mem_of_getElem? (i := 2) rfl))))
  unfold fX4_needlessBy at h
  refine lv_iconst (pc := 0) (v := (-1)) hx hb dX4_needlessBy_0 (by decide) ?_
  refine lv_istore_n (pc := 1) (lv' := [(2, .int (-1)), (0, .ref (tl_ad g 34)), (1, .int a1)]) hx hb dX4_needlessBy_1 rfl hl (by decide) rfl (fun ls hl => ?_)
  refine lv_ldc (pc := 2) (v := 999999) hx hb C.2.2.2.1 lk0 dX4_needlessBy_2 ?_
  refine lv_istore_n (pc := 4) (lv' := [(3, .int 999999), (2, .int (-1)), (0, .ref (tl_ad g 34)), (1, .int a1)]) hx hb dX4_needlessBy_4 rfl hl (by decide) rfl (fun ls hl => ?_)
  refine lv_iconst (pc := 5) (v := 0) hx hb dX4_needlessBy_5 (by decide) ?_
  refine lv_istore (pc := 6) (lv' := [(4, .int 0), (3, .int 999999), (2, .int (-1)), (0, .ref (tl_ad g 34)), (1, .int a1)]) hx hb dX4_needlessBy_6 hl (by decide) rfl (fun ls hl => ?_)
  obtain ⟨k4, ek4, h⟩ := tl_j3 h
  have hZ4 : ∀ (σ1 : tl_St) (x2 : Int32) (x3 : Int32) (H : Heap) (locs : List Loc) (ls : Array Slot), k4 σ1 x2 x3 = some (ro, σo) → va_P g.1 vwCl (tl_W g σ1) H → va_S (tl_A g) s.heap H locs → lv_has ls 6 [(1, .int a1), (2, .int x2), (3, .int x3)] → W p l e rX4_needlessBy s m [.ref (tl_ad g 34), .int a1].toArray below meth c H locs 0 0 (MQ below (tl_Qi g ro σo) [.ref (tl_ad g 34), .int a1].toArray s 0 0 (tl_A g)) (F0 m 91 ls []) := by
    intro σ1 x2 x3 H locs ls h hP hS hl
    replace h := (ek4 σ1 x2 x3).trans h
    refine lv_iload_n (pc := 91) hx hb dX4_needlessBy_91 rfl (lv_at hl 1 rfl) ?_
    refine lv_iconst (pc := 92) (v := (-1)) hx hb dX4_needlessBy_92 (by decide) ?_
    obtain ⟨k5, ek5, h⟩ := tl_j0 h
    have hJ5 : ∀ (H : Heap) (locs : List Loc) (ls : Array Slot), k5 = some (ro, σo) → va_P g.1 vwCl (tl_W g σ1) H → va_S (tl_A g) s.heap H locs → lv_has ls 6 [(2, .int x2)] → W p l e rX4_needlessBy s m [.ref (tl_ad g 34), .int a1].toArray below meth c H locs 0 0 (MQ below (tl_Qi g ro σo) [.ref (tl_ad g 34), .int a1].toArray s 0 0 (tl_A g)) (F0 m 100 ls []) := by
      intro H locs ls h hP hS hl
      replace h := ek5.trans h
      refine lv_iload_n (pc := 100) hx hb dX4_needlessBy_100 rfl (lv_at hl 0 rfl) ?_
      refine lv_goto (pc := 101) (tgt := 105) hx hb dX4_needlessBy_101 (by decide) ?_
      exact tl_Ripw (pc := 105) C h hP hS dX4_needlessBy_105
    refine lv_icmp_eq (pc := 93) (tgt := 100) hx hb dX4_needlessBy_93 (by decide) (fun c6 => ?_) (fun c6 => ?_)
    · replace h := (if_pos c6).symm.trans h
      exact hJ5 _ _ _ h hP hS (lv_sub hl [1] rfl)
    · replace h := (if_neg c6).symm.trans h
      refine lv_iload_n (pc := 96) hx hb dX4_needlessBy_96 rfl (lv_at hl 0 rfl) ?_
      refine lv_if_ne (pc := 97) (tgt := 104) hx hb dX4_needlessBy_97 (by decide) (fun c7 => ?_) (fun c7 => ?_)
      · replace h := (if_neg c7).symm.trans h
        refine lv_iload_n (pc := 104) hx hb dX4_needlessBy_104 rfl (lv_at hl 2 rfl) ?_
        exact tl_Ripw (pc := 105) C h hP hS dX4_needlessBy_105
      · replace h := (if_pos c7).symm.trans h
        exact hJ5 _ _ _ h hP hS (lv_sub hl [1] rfl)
  have hL8 : ∀ (n : Nat) (σ8 : tl_St) (x9 : Int32) (x10 : Int32) (x11 : Int32) (H : Heap) (locs : List Loc) (ls : Array Slot), fX4_needlessBy_L8 k4 n σ8 x9 x10 x11 = some (ro, σo) → va_P g.1 vwCl (tl_W g σ8) H → va_S (tl_A g) s.heap H locs → lv_has ls 6 [(0, .ref (tl_ad g 34)), (1, .int a1), (2, .int x9), (3, .int x10), (4, .int x11)] → W p l e rX4_needlessBy s m [.ref (tl_ad g 34), .int a1].toArray below meth c H locs 0 0 (MQ below (tl_Qi g ro σo) [.ref (tl_ad g 34), .int a1].toArray s 0 0 (tl_A g)) (F0 m 8 ls []) := by
    intro n
    induction n with
    | zero =>
      intro σ8 x9 x10 x11 H locs ls h hP hS hl
      rw [fX4_needlessBy_L8] at h
      cases h
    | succ n ih =>
      intro σ8 x9 x10 x11 H locs ls h hP hS hl
      rw [fX4_needlessBy_L8] at h
      refine lv_iload (pc := 8) hx hb dX4_needlessBy_8 (lv_at hl 4 rfl) ?_
      refine lv_aload_n (pc := 10) hx hb dX4_needlessBy_10 rfl (lv_at hl 0 rfl) ?_
      refine tl_gM_7 (pc := 11) C hc4 hP lk1 dX4_needlessBy_11 ?_
      refine lv_icmp_ge (pc := 14) (tgt := 91) hx hb dX4_needlessBy_14 (by decide) (fun c12 => ?_) (fun c12 => ?_)
      · replace h := (if_pos c12).symm.trans h
        exact hZ4 σ8 x9 x10 _ _ _ h hP hS (lv_sub hl [1, 2, 3] rfl)
      · replace h := (if_neg c12).symm.trans h
        refine lv_aload_n (pc := 17) hx hb dX4_needlessBy_17 rfl (lv_at hl 0 rfl) ?_
        refine tl_gM_13 (pc := 18) C hc4 hP lk2 dX4_needlessBy_18 ?_
        refine lv_iload (pc := 21) hx hb dX4_needlessBy_21 (lv_at hl 4 rfl) ?_
        obtain ⟨r13, er13, h⟩ := tl_nm h
        refine caX4_isIn (pc := 23) C hts hP hS er13 gX4_needlessBy_X4_isIn ⟨Nat.le_of_ble_eq_true rfl, Nat.le_of_ble_eq_true rfl⟩ hl.1 (Nat.le_of_ble_eq_true rfl) dX4_needlessBy_23 (fun H locs hP hS => ?_)
        refine lv_if_ne (pc := 26) (tgt := 85) hx hb dX4_needlessBy_26 (by decide) (fun c14 => ?_) (fun c14 => ?_)
        · replace h := (if_neg c14).symm.trans h
          obtain ⟨x15, ex15, h⟩ := tl_nm h
          refine lv_iinc (pc := 85) (v := x15) (lv' := [(4, .int x15), (0, .ref (tl_ad g 34)), (1, .int a1), (2, .int x9), (3, .int x10)]) hx hb dX4_needlessBy_85 hl (k := 4) rfl ex15 (by decide) rfl (fun ls hl => ?_)
          refine lv_goto (pc := 88) (tgt := 8) hx hb dX4_needlessBy_88 (by decide) ?_
          exact ih σ8 x9 x10 x15 _ _ _ h hP hS (lv_sub hl [1, 2, 3, 4, 0] rfl)
        · replace h := (if_pos c14).symm.trans h
          refine lv_aload_n (pc := 29) hx hb dX4_needlessBy_29 rfl (lv_at hl 0 rfl) ?_
          refine lv_dup (pc := 30) hx hb dX4_needlessBy_30 rfl ?_
          refine tl_gM_13 (pc := 31) C hc4 hP lk2 dX4_needlessBy_31 ?_
          refine lv_iconst (pc := 34) (v := 1) hx hb dX4_needlessBy_34 (by decide) ?_
          refine lv_iload (pc := 35) hx hb dX4_needlessBy_35 (lv_at hl 4 rfl) ?_
          refine lv_ishl (pc := 37) hx hb dX4_needlessBy_37 ?_
          refine lv_ior (pc := 38) hx hb dX4_needlessBy_38 ?_
          obtain ⟨σ16, eσ16, h⟩ := tl_nm h
          refine tl_sM_13 (pc := 39) C hc4 hP hS eσ16 lk2 dX4_needlessBy_39 (fun H locs hP hS => ?_)
          refine lv_aload_n (pc := 42) hx hb dX4_needlessBy_42 rfl (lv_at hl 0 rfl) ?_
          refine lv_bipush (pc := 43) (v := 10) hx hb dX4_needlessBy_43 (by decide) ?_
          obtain ⟨r17, σ18, er17, h⟩ := tl_o2s h
          refine caX4_aheadOf (pc := 45) C hts hP hS er17 gX4_needlessBy_X4_aheadOf ⟨Nat.le_of_ble_eq_true rfl, Nat.le_of_ble_eq_true rfl⟩ hl.1 (Nat.le_of_ble_eq_true rfl) dX4_needlessBy_45 (fun H locs hP hS => ?_)
          refine lv_istore (pc := 48) (lv' := [(5, .int r17), (0, .ref (tl_ad g 34)), (1, .int a1), (2, .int x9), (3, .int x10), (4, .int x11)]) hx hb dX4_needlessBy_48 hl (by decide) rfl (fun ls hl => ?_)
          refine lv_aload_n (pc := 50) hx hb dX4_needlessBy_50 rfl (lv_at hl 1 rfl) ?_
          refine lv_dup (pc := 51) hx hb dX4_needlessBy_51 rfl ?_
          refine tl_gM_13 (pc := 52) C hc4 hP lk2 dX4_needlessBy_52 ?_
          refine lv_iconst (pc := 55) (v := 1) hx hb dX4_needlessBy_55 (by decide) ?_
          refine lv_iload (pc := 56) hx hb dX4_needlessBy_56 (lv_at hl 5 rfl) ?_
          refine lv_ishl (pc := 58) hx hb dX4_needlessBy_58 ?_
          refine lv_iconst (pc := 59) (v := (-1)) hx hb dX4_needlessBy_59 (by decide) ?_
          refine lv_ixor (pc := 60) hx hb dX4_needlessBy_60 ?_
          refine lv_iand (pc := 61) hx hb dX4_needlessBy_61 ?_
          obtain ⟨σ19, eσ19, h⟩ := tl_nm h
          refine tl_sM_13 (pc := 62) C hc4 hP hS eσ19 lk2 dX4_needlessBy_62 (fun H locs hP hS => ?_)
          refine lv_iload (pc := 65) hx hb dX4_needlessBy_65 (lv_at hl 0 rfl) ?_
          refine lv_iload_n (pc := 67) hx hb dX4_needlessBy_67 rfl (lv_at hl 4 rfl) ?_
          obtain ⟨k21, ek21, h⟩ := tl_j1 h
          have hJ21 : ∀ (x20 : Int32) (H : Heap) (locs : List Loc) (ls : Array Slot), k21 x20 = some (ro, σo) → va_P g.1 vwCl (tl_W g σ19) H → va_S (tl_A g) s.heap H locs → lv_has ls 6 [(0, .ref (tl_ad g 34)), (1, .int a1), (3, .int x10), (4, .int x11), (5, .int r17)] → W p l e rX4_needlessBy s m [.ref (tl_ad g 34), .int a1].toArray below meth c H locs 0 0 (MQ below (tl_Qi g ro σo) [.ref (tl_ad g 34), .int a1].toArray s 0 0 (tl_A g)) (F0 m 77 ls [.int x20]) := by
            intro x20 H locs ls h hP hS hl
            replace h := (ek21 x20).trans h
            refine lv_istore_n (pc := 77) (lv' := [(2, .int x20), (0, .ref (tl_ad g 34)), (1, .int a1), (3, .int x10), (4, .int x11), (5, .int r17)]) hx hb dX4_needlessBy_77 rfl hl (by decide) rfl (fun ls hl => ?_)
            refine lv_iload (pc := 78) hx hb dX4_needlessBy_78 (lv_at hl 5 rfl) ?_
            refine lv_iload_n (pc := 80) hx hb dX4_needlessBy_80 rfl (lv_at hl 3 rfl) ?_
            obtain ⟨r22, er22, h⟩ := tl_nm h
            refine caX4_lesser (pc := 81) C hts hP hS er22 gX4_needlessBy_X4_lesser ⟨Nat.le_of_ble_eq_true rfl, Nat.le_of_ble_eq_true rfl⟩ hl.1 (Nat.le_of_ble_eq_true rfl) dX4_needlessBy_81 (fun H locs hP hS => ?_)
            refine lv_istore_n (pc := 84) (lv' := [(3, .int r22), (2, .int x20), (0, .ref (tl_ad g 34)), (1, .int a1), (4, .int x11), (5, .int r17)]) hx hb dX4_needlessBy_84 rfl hl (by decide) rfl (fun ls hl => ?_)
            obtain ⟨x23, ex23, h⟩ := tl_nm h
            refine lv_iinc (pc := 85) (v := x23) (lv' := [(4, .int x23), (3, .int r22), (2, .int x20), (0, .ref (tl_ad g 34)), (1, .int a1), (5, .int r17)]) hx hb dX4_needlessBy_85 hl (k := 4) rfl ex23 (by decide) rfl (fun ls hl => ?_)
            refine lv_goto (pc := 88) (tgt := 8) hx hb dX4_needlessBy_88 (by decide) ?_
            exact ih σ19 x20 r22 x23 _ _ _ h hP hS (lv_sub hl [3, 4, 2, 1, 0] rfl)
          refine lv_icmp_ge (pc := 68) (tgt := 76) hx hb dX4_needlessBy_68 (by decide) (fun c24 => ?_) (fun c24 => ?_)
          · replace h := (if_pos c24).symm.trans h
            refine lv_iload_n (pc := 76) hx hb dX4_needlessBy_76 rfl (lv_at hl 3 rfl) ?_
            exact hJ21 x9 _ _ _ h hP hS (lv_sub hl [1, 2, 4, 5, 0] rfl)
          · replace h := (if_neg c24).symm.trans h
            refine lv_iload (pc := 71) hx hb dX4_needlessBy_71 (lv_at hl 5 rfl) ?_
            refine lv_goto (pc := 73) (tgt := 77) hx hb dX4_needlessBy_73 (by decide) ?_
            exact hJ21 x11 _ _ _ h hP hS (lv_sub hl [1, 2, 4, 5, 0] rfl)
  exact hL8 1000 σ (-1) 999999 0 _ _ _ h hP hS (lv_sub hl [3, 4, 2, 1, 0] rfl)
theorem caX4_needlessBy {p : Program} {l : Launch} {e : Env} {R : Room} {s : State} {m : MethodId} {args : Array Value} {below : List Frame} {meth : Method} {c : Code} {H : Heap} {locs : List Loc} {Q : State → Prop} {cc : ByteArray} {pc : Nat} {ls : Array Slot} {rest : List Value} {g : tl_G} {σ : tl_St} {H0 : Heap} {nL : Nat} {own : String} {ret : Option FieldType} {index : Nat} (C : tl_C p s m meth c cc nL own ret g) {Ts : List Cond} (hts : ∀ w ∈ Ts, w.before args s = true) (hP : va_P g.1 vwCl (tl_W g σ) H) (hS : va_S (tl_A g) H0 H locs) {a1 : Int32} {ro : Int32} {σo : tl_St} (h : fX4_needlessBy σ a1 = some (ro, σo)) (hG : GoodIn Ts (wsV own index RX4 yX4_needlessBy wsX4_needlessBy)) (hR : 4 + 1 ≤ R.frames ∧ 8 + (6 + 11) + 94 ≤ R.locals) (hls : ls.size = nL) (hrm : (rest.map fun v => v.category).sum ≤ 8) (hdg : decode cc pc = .ok (.invokevirtual index, 3)) (kk : ∀ (H1 : Heap) (locs1 : List Loc), va_P g.1 vwCl (tl_W g σo) H1 → va_S (tl_A g) H0 H1 locs1 → W p l e R s m args below meth c H1 locs1 0 0 Q (F0 m (pc + 3) ls (.int ro :: rest))) : W p l e R s m args below meth c H locs 0 0 Q (F0 m pc ls (.int a1 :: .ref (tl_ad g 34) :: rest)) :=
  tl_goi (tl_callV C hts hP (okX4_needlessBy l g C.2.2.2.2.2.2.2 σ a1 ro σo h) rfl rfl rfl (n := 1) (by decide +kernel) rfl (ci := 4) rfl (tl_kM g σ) hG hR hls rfl hrm hdg) hS kk
abbrev rX4_needless : Room := { frames := 5, cells := 0, slots := 0, locals := 119 }
set_option maxHeartbeats 4000000 in
set_option maxRecDepth 100000 in
theorem okX4_needless (l : Launch) (g : tl_G) (hI : tl_I g) (σ : tl_St) (a1 : Int32) (ro : Int32) (σo : tl_St) (h : fX4_needless σ a1 = some (ro, σo)) : Met l yX4_needless wsX4_needless rX4_needless (va_Pc [.ref (tl_ad g 34), .int a1] (tl_Pre g σ)) (tl_Qi g ro σo) 0 0 (tl_A g) := by
  refine tl_enter (cc := cX4_needless) (maxL := 2) (ret := (some .int)) (own := RX4) hI (by decide) rfl rfl (Nat.le_of_ble_eq_true rfl) ?_
  intro p e s m below meth c C hts H locs hP hS ls hl
  have hx := C.1
  have hb := C.2.1
  have hl : lv_has ls 2 [(0, .ref (tl_ad g 34)), (1, .int a1)] := hl
  unfold fX4_needless at h
  refine lv_iload_n (pc := 0) hx hb dX4_needless_0 rfl (lv_at hl 1 rfl) ?_
  obtain ⟨r1, er1, h⟩ := tl_nm h
  refine caX4_isTwo (pc := 1) C hts hP hS er1 gX4_needless_X4_isTwo ⟨Nat.le_of_ble_eq_true rfl, Nat.le_of_ble_eq_true rfl⟩ hl.1 (Nat.le_of_ble_eq_true rfl) dX4_needless_1 (fun H locs hP hS => ?_)
  refine lv_if_eq (pc := 4) (tgt := 15) hx hb dX4_needless_4 (by decide) (fun c2 => ?_) (fun c2 => ?_)
  · replace h := (if_pos c2).symm.trans h
    refine lv_bipush (pc := 15) (v := (-2)) hx hb dX4_needless_15 (by decide) ?_
    exact tl_Ripw (pc := 17) C h hP hS dX4_needless_17
  · replace h := (if_neg c2).symm.trans h
    refine lv_aload_n (pc := 7) hx hb dX4_needless_7 rfl (lv_at hl 0 rfl) ?_
    refine lv_iload_n (pc := 8) hx hb dX4_needless_8 rfl (lv_at hl 1 rfl) ?_
    obtain ⟨r3, σ4, er3, h⟩ := tl_o2s h
    refine caX4_needlessBy (pc := 9) C hts hP hS er3 gX4_needless_X4_needlessBy ⟨Nat.le_of_ble_eq_true rfl, Nat.le_of_ble_eq_true rfl⟩ hl.1 (Nat.le_of_ble_eq_true rfl) dX4_needless_9 (fun H locs hP hS => ?_)
    refine lv_goto (pc := 12) (tgt := 17) hx hb dX4_needless_12 (by decide) ?_
    exact tl_Ripw (pc := 17) C h hP hS dX4_needless_17
theorem caX4_needless {p : Program} {l : Launch} {e : Env} {R : Room} {s : State} {m : MethodId} {args : Array Value} {below : List Frame} {meth : Method} {c : Code} {H : Heap} {locs : List Loc} {Q : State → Prop} {cc : ByteArray} {pc : Nat} {ls : Array Slot} {rest : List Value} {g : tl_G} {σ : tl_St} {H0 : Heap} {nL : Nat} {own : String} {ret : Option FieldType} {index : Nat} (C : tl_C p s m meth c cc nL own ret g) {Ts : List Cond} (hts : ∀ w ∈ Ts, w.before args s = true) (hP : va_P g.1 vwCl (tl_W g σ) H) (hS : va_S (tl_A g) H0 H locs) {a1 : Int32} {ro : Int32} {σo : tl_St} (h : fX4_needless σ a1 = some (ro, σo)) (hG : GoodIn Ts (wsV own index RX4 yX4_needless wsX4_needless)) (hR : 5 + 1 ≤ R.frames ∧ 8 + (2 + 11) + 119 ≤ R.locals) (hls : ls.size = nL) (hrm : (rest.map fun v => v.category).sum ≤ 8) (hdg : decode cc pc = .ok (.invokevirtual index, 3)) (kk : ∀ (H1 : Heap) (locs1 : List Loc), va_P g.1 vwCl (tl_W g σo) H1 → va_S (tl_A g) H0 H1 locs1 → W p l e R s m args below meth c H1 locs1 0 0 Q (F0 m (pc + 3) ls (.int ro :: rest))) : W p l e R s m args below meth c H locs 0 0 Q (F0 m pc ls (.int a1 :: .ref (tl_ad g 34) :: rest)) :=
  tl_goi (tl_callV C hts hP (okX4_needless l g C.2.2.2.2.2.2.2 σ a1 ro σo h) rfl rfl rfl (n := 1) (by decide +kernel) rfl (ci := 4) rfl (tl_kM g σ) hG hR hls rfl hrm hdg) hS kk
abbrev rX4_write : Room := { frames := 4, cells := 0, slots := 0, locals := 90 }
set_option maxHeartbeats 4000000 in
set_option maxRecDepth 100000 in
theorem okX4_write (l : Launch) (g : tl_G) (hI : tl_I g) (σ : tl_St) (a1 : Int32) (ro : Int32) (σo : tl_St) (h : fX4_write σ a1 = some (ro, σo)) : Met l yX4_write wsX4_write rX4_write (va_Pc [.ref (tl_ad g 34), .int a1] (tl_Pre g σ)) (tl_Qi g ro σo) 0 0 (tl_A g) := by
  refine tl_enter (cc := cX4_write) (maxL := 4) (ret := (some .int)) (own := RX4) hI (by decide) rfl rfl (Nat.le_of_ble_eq_true rfl) ?_
  intro p e s m below meth c C hts H locs hP hS ls hl
  have hx := C.1
  have hb := C.2.1
  have hl : lv_has ls 4 [(0, .ref (tl_ad g 34)), (1, .int a1)] := hl
  have hc4 : ∀ w ∈ u_ws RX4 TX4 30, w.before [.ref (tl_ad g 34), .int a1].toArray s = true := fun w hw => hts w (List.mem_cons_of_mem _ (List.mem_append_right _ hw))
  have lk0 : (Cond.fieldLink RX4 7 "ThriftLockModel" "forms" "[I").before [.ref (tl_ad g 34), .int a1].toArray s = true := hts _ (List.mem_cons_of_mem _ (List.mem_append_left _ (List.mem_append_left _ (List.mem_of_getElem? (i := 0) rfl))))
  have lk1 : (Cond.fieldLink RX4 13 "ThriftLockModel" "sizes" "[I").before [.ref (tl_ad g 34), .int a1].toArray s = true := hts _ (List.mem_cons_of_mem _ (List.mem_append_left _ (List.mem_append_left _ (List.mem_of_getElem? (i := 1) rfl))))
  have lk2 : (Cond.fieldLink RX4 56 "ThriftLockModel" "head" "I").before [.ref (tl_ad g 34), .int a1].toArray s = true := hts _ (List.mem_cons_of_mem _ (List.mem_append_left _ (List.mem_append_left _ (List.mem_of_getElem? (i := 2) rfl))))
  have lk3 : (Cond.fieldLink RX4 16 "ThriftLockModel" "items" "[I").before [.ref (tl_ad g 34), .int a1].toArray s = true := hts _ (List.mem_cons_of_mem _ (List.mem_append_left _ (List.mem_append_left _ (List.mem_of_getElem? (i := 3) rfl))))
  have lk4 : (Cond.fieldLink RX4 44 "ThriftLockModel" "steps" "[I").before [.ref (tl_ad g 34), .int a1].toArray s = true := hts _ (List.mem_cons_of_mem _ (List.mem_append_left _ (List.mem_append_left _ (List.mem_of_getElem? (i := 4) rfl))))
  unfold fX4_write at h
  refine lv_iload_n (pc := 0) hx hb dX4_write_0 rfl (lv_at hl 1 rfl) ?_
  obtain ⟨r1, er1, h⟩ := tl_nm h
  refine caX4_isSheet (pc := 1) C hts hP hS er1 gX4_write_X4_isSheet ⟨Nat.le_of_ble_eq_true rfl, Nat.le_of_ble_eq_true rfl⟩ hl.1 (Nat.le_of_ble_eq_true rfl) dX4_write_1 (fun H locs hP hS => ?_)
  refine lv_if_ne (pc := 4) (tgt := 10) hx hb dX4_write_4 (by decide) (fun c2 => ?_) (fun c2 => ?_)
  · replace h := (if_neg c2).symm.trans h
    refine lv_aload_n (pc := 10) hx hb dX4_write_10 rfl (lv_at hl 0 rfl) ?_
    refine tl_gM_0 (pc := 11) C hc4 hP lk0 dX4_write_11 ?_
    refine lv_iload_n (pc := 14) hx hb dX4_write_14 rfl (lv_at hl 1 rfl) ?_
    obtain ⟨g3, h⟩ := tl_gd h
    refine tl_ald (pc := 15) C hP (tl_a35 g) g3 dX4_write_15 ?_
    refine lv_if_ge (pc := 16) (tgt := 25) hx hb dX4_write_16 (by decide) (fun c4 => ?_) (fun c4 => ?_)
    · replace h := (if_pos c4).symm.trans h
      refine lv_aload_n (pc := 25) hx hb dX4_write_25 rfl (lv_at hl 0 rfl) ?_
      obtain ⟨σ5, eσ5, h⟩ := tl_o1s h
      refine caX4_looks (pc := 26) C hts hP hS eσ5 gX4_write_X4_looks ⟨Nat.le_of_ble_eq_true rfl, Nat.le_of_ble_eq_true rfl⟩ hl.1 (Nat.le_of_ble_eq_true rfl) dX4_write_26 (fun H locs hP hS => ?_)
      refine lv_aload_n (pc := 29) hx hb dX4_write_29 rfl (lv_at hl 0 rfl) ?_
      refine tl_gM_1 (pc := 30) C hc4 hP lk1 dX4_write_30 ?_
      refine lv_iload_n (pc := 33) hx hb dX4_write_33 rfl (lv_at hl 1 rfl) ?_
      obtain ⟨g6, h⟩ := tl_gd h
      refine tl_ald (pc := 34) C hP (tl_a36 g) g6 dX4_write_34 ?_
      refine lv_aload_n (pc := 35) hx hb dX4_write_35 rfl (lv_at hl 0 rfl) ?_
      refine tl_gM_5 (pc := 36) C hc4 hP lk2 dX4_write_36 ?_
      obtain ⟨r7, er7, h⟩ := tl_nm h
      refine caX4_lesser (pc := 39) C hts hP hS er7 gX4_write_X4_lesser ⟨Nat.le_of_ble_eq_true rfl, Nat.le_of_ble_eq_true rfl⟩ hl.1 (Nat.le_of_ble_eq_true rfl) dX4_write_39 (fun H locs hP hS => ?_)
      refine lv_istore_n (pc := 42) (lv' := [(2, .int r7), (0, .ref (tl_ad g 34)), (1, .int a1)]) hx hb dX4_write_42 rfl hl (by decide) rfl (fun ls hl => ?_)
      refine lv_iconst (pc := 43) (v := 0) hx hb dX4_write_43 (by decide) ?_
      refine lv_istore_n (pc := 44) (lv' := [(3, .int 0), (2, .int r7), (0, .ref (tl_ad g 34)), (1, .int a1)]) hx hb dX4_write_44 rfl hl (by decide) rfl (fun ls hl => ?_)
      obtain ⟨k9, ek9, h⟩ := tl_j1 h
      have hZ9 : ∀ (σ8 : tl_St) (H : Heap) (locs : List Loc) (ls : Array Slot), k9 σ8 = some (ro, σo) → va_P g.1 vwCl (tl_W g σ8) H → va_S (tl_A g) s.heap H locs → lv_has ls 4 [(2, .int r7)] → W p l e rX4_write s m [.ref (tl_ad g 34), .int a1].toArray below meth c H locs 0 0 (MQ below (tl_Qi g ro σo) [.ref (tl_ad g 34), .int a1].toArray s 0 0 (tl_A g)) (F0 m 82 ls []) := by
        intro σ8 H locs ls h hP hS hl
        replace h := (ek9 σ8).trans h
        refine lv_iload_n (pc := 82) hx hb dX4_write_82 rfl (lv_at hl 0 rfl) ?_
        exact tl_Ripw (pc := 83) C h hP hS dX4_write_83
      have hL45 : ∀ (n : Nat) (σ10 : tl_St) (x11 : Int32) (H : Heap) (locs : List Loc) (ls : Array Slot), fX4_write_L45 a1 r7 k9 n σ10 x11 = some (ro, σo) → va_P g.1 vwCl (tl_W g σ10) H → va_S (tl_A g) s.heap H locs → lv_has ls 4 [(0, .ref (tl_ad g 34)), (1, .int a1), (2, .int r7), (3, .int x11)] → W p l e rX4_write s m [.ref (tl_ad g 34), .int a1].toArray below meth c H locs 0 0 (MQ below (tl_Qi g ro σo) [.ref (tl_ad g 34), .int a1].toArray s 0 0 (tl_A g)) (F0 m 45 ls []) := by
        intro n
        induction n with
        | zero =>
          intro σ10 x11 H locs ls h hP hS hl
          rw [fX4_write_L45] at h
          cases h
        | succ n ih =>
          intro σ10 x11 H locs ls h hP hS hl
          rw [fX4_write_L45] at h
          refine lv_iload_n (pc := 45) hx hb dX4_write_45 rfl (lv_at hl 3 rfl) ?_
          refine lv_iload_n (pc := 46) hx hb dX4_write_46 rfl (lv_at hl 2 rfl) ?_
          refine lv_icmp_ge (pc := 47) (tgt := 82) hx hb dX4_write_47 (by decide) (fun c12 => ?_) (fun c12 => ?_)
          · replace h := (if_pos c12).symm.trans h
            exact hZ9 σ10 _ _ _ h hP hS (lv_sub hl [2] rfl)
          · replace h := (if_neg c12).symm.trans h
            refine lv_aload_n (pc := 50) hx hb dX4_write_50 rfl (lv_at hl 0 rfl) ?_
            refine tl_gM_2 (pc := 51) C hc4 hP lk3 dX4_write_51 ?_
            refine lv_bipush (pc := 54) (v := 60) hx hb dX4_write_54 (by decide) ?_
            refine lv_iload_n (pc := 56) hx hb dX4_write_56 rfl (lv_at hl 1 rfl) ?_
            refine lv_imul (pc := 57) hx hb dX4_write_57 ?_
            refine lv_iload_n (pc := 58) hx hb dX4_write_58 rfl (lv_at hl 3 rfl) ?_
            refine lv_iadd (pc := 59) hx hb dX4_write_59 ?_
            refine lv_aload_n (pc := 60) hx hb dX4_write_60 rfl (lv_at hl 0 rfl) ?_
            refine tl_gM_0 (pc := 61) C hc4 hP lk0 dX4_write_61 ?_
            refine lv_iload_n (pc := 64) hx hb dX4_write_64 rfl (lv_at hl 1 rfl) ?_
            obtain ⟨g13, h⟩ := tl_gd h
            refine tl_ald (pc := 65) C hP (tl_a35 g) g13 dX4_write_65 ?_
            refine lv_aload_n (pc := 66) hx hb dX4_write_66 rfl (lv_at hl 0 rfl) ?_
            refine tl_gM_18 (pc := 67) C hc4 hP lk4 dX4_write_67 ?_
            refine lv_iload_n (pc := 70) hx hb dX4_write_70 rfl (lv_at hl 3 rfl) ?_
            obtain ⟨g14, h⟩ := tl_gd h
            refine tl_ald (pc := 71) C hP (tl_a46 g) g14 dX4_write_71 ?_
            obtain ⟨r15, er15, h⟩ := tl_nm h
            refine caX4_cut (pc := 72) C hts hP hS er15 gX4_write_X4_cut ⟨Nat.le_of_ble_eq_true rfl, Nat.le_of_ble_eq_true rfl⟩ hl.1 (Nat.le_of_ble_eq_true rfl) dX4_write_72 (fun H locs hP hS => ?_)
            obtain ⟨g16, h⟩ := tl_gd h
            obtain ⟨σ17, eσ17, h⟩ := tl_nm h
            refine tl_ast (pc := 75) C hP hS (tl_a37 g) g16 eσ17 dX4_write_75 (fun H locs hP hS => ?_)
            obtain ⟨x18, ex18, h⟩ := tl_nm h
            refine lv_iinc (pc := 76) (v := x18) (lv' := [(3, .int x18), (0, .ref (tl_ad g 34)), (1, .int a1), (2, .int r7)]) hx hb dX4_write_76 hl (k := 3) rfl ex18 (by decide) rfl (fun ls hl => ?_)
            refine lv_goto (pc := 79) (tgt := 45) hx hb dX4_write_79 (by decide) ?_
            exact ih σ17 x18 _ _ _ h hP hS (lv_sub hl [1, 2, 3, 0] rfl)
      exact hL45 1000 σ5 0 _ _ _ h hP hS (lv_sub hl [2, 3, 1, 0] rfl)
    · replace h := (if_neg c4).symm.trans h
      refine lv_aload_n (pc := 19) hx hb dX4_write_19 rfl (lv_at hl 0 rfl) ?_
      refine lv_iconst (pc := 20) (v := 1) hx hb dX4_write_20 (by decide) ?_
      obtain ⟨r19, σ20, er19, h⟩ := tl_nm2 h
      refine caX4_finds (pc := 21) C hts hP hS er19 gX4_write_X4_finds ⟨Nat.le_of_ble_eq_true rfl, Nat.le_of_ble_eq_true rfl⟩ hl.1 (Nat.le_of_ble_eq_true rfl) dX4_write_21 (fun H locs hP hS => ?_)
      exact tl_Ripw (pc := 24) C h hP hS dX4_write_24
  · replace h := (if_pos c2).symm.trans h
    refine lv_bipush (pc := 7) (v := (-2)) hx hb dX4_write_7 (by decide) ?_
    exact tl_Ripw (pc := 9) C h hP hS dX4_write_9
theorem caX4_write {p : Program} {l : Launch} {e : Env} {R : Room} {s : State} {m : MethodId} {args : Array Value} {below : List Frame} {meth : Method} {c : Code} {H : Heap} {locs : List Loc} {Q : State → Prop} {cc : ByteArray} {pc : Nat} {ls : Array Slot} {rest : List Value} {g : tl_G} {σ : tl_St} {H0 : Heap} {nL : Nat} {own : String} {ret : Option FieldType} {index : Nat} (C : tl_C p s m meth c cc nL own ret g) {Ts : List Cond} (hts : ∀ w ∈ Ts, w.before args s = true) (hP : va_P g.1 vwCl (tl_W g σ) H) (hS : va_S (tl_A g) H0 H locs) {a1 : Int32} {ro : Int32} {σo : tl_St} (h : fX4_write σ a1 = some (ro, σo)) (hG : GoodIn Ts (wsV own index RX4 yX4_write wsX4_write)) (hR : 4 + 1 ≤ R.frames ∧ 8 + (4 + 11) + 90 ≤ R.locals) (hls : ls.size = nL) (hrm : (rest.map fun v => v.category).sum ≤ 8) (hdg : decode cc pc = .ok (.invokevirtual index, 3)) (kk : ∀ (H1 : Heap) (locs1 : List Loc), va_P g.1 vwCl (tl_W g σo) H1 → va_S (tl_A g) H0 H1 locs1 → W p l e R s m args below meth c H1 locs1 0 0 Q (F0 m (pc + 3) ls (.int ro :: rest))) : W p l e R s m args below meth c H locs 0 0 Q (F0 m pc ls (.int a1 :: .ref (tl_ad g 34) :: rest)) :=
  tl_goi (tl_callV C hts hP (okX4_write l g C.2.2.2.2.2.2.2 σ a1 ro σo h) rfl rfl rfl (n := 1) (by decide +kernel) rfl (ci := 4) rfl (tl_kM g σ) hG hR hls rfl hrm hdg) hS kk
abbrev rX4_count : Room := { frames := 1, cells := 0, slots := 0, locals := 23 }
set_option maxHeartbeats 4000000 in
set_option maxRecDepth 100000 in
theorem okX4_count (l : Launch) (g : tl_G) (hI : tl_I g) (σ : tl_St) (a1 : Int32) (ro : Int32) (h : fX4_count σ a1 = some ro) : Met l yX4_count wsX4_count rX4_count (va_Pc [.ref (tl_ad g 34), .int a1] (tl_Pre g σ)) (tl_Qi g ro σ) 0 0 (tl_A g) := by
  refine tl_enter (cc := cX4_count) (maxL := 2) (ret := (some .int)) (own := RX4) hI (by decide) rfl rfl (Nat.le_of_ble_eq_true rfl) ?_
  intro p e s m below meth c C hts H locs hP hS ls hl
  have hx := C.1
  have hb := C.2.1
  have hl : lv_has ls 2 [(0, .ref (tl_ad g 34)), (1, .int a1)] := hl
  have hc4 : ∀ w ∈ u_ws RX4 TX4 30, w.before [.ref (tl_ad g 34), .int a1].toArray s = true := fun w hw => hts w (List.mem_cons_of_mem _ (List.mem_append_right _ hw))
  have lk0 : (Cond.fieldLink RX4 96 "ThriftLockModel" "basins" "I").before [.ref (tl_ad g 34), .int a1].toArray s = true := hts _ (List.mem_cons_of_mem _ (List.mem_append_left _ (List.mem_of_getElem? (i := 0) rfl)))
  have lk1 : (Cond.fieldLink RX4 174 "ThriftLockModel" "turns" "I").before [.ref (tl_ad g 34), .int a1].toArray s = true := hts _ (List.mem_cons_of_mem _ (List.mem_append_left _ (List.mem_of_getElem? (i := 1) rfl)))
  have lk2 : (Cond.fieldLink RX4 180 "ThriftLockModel" "drawnEver" "I").before [.ref (tl_ad g 34), .int a1].toArray s = true := hts _ (List.mem_cons_of_mem _ (List.mem_append_left _ (List.mem_of_getElem? (i := 2) rfl)))
  have lk3 : (Cond.fieldLink RX4 183 "ThriftLockModel" "lostEver" "I").before [.ref (tl_ad g 34), .int a1].toArray s = true := hts _ (List.mem_cons_of_mem _ (List.mem_append_left _ (List.mem_of_getElem? (i := 3) rfl)))
  have lk4 : (Cond.fieldLink RX4 119 "ThriftLockModel" "came" "I").before [.ref (tl_ad g 34), .int a1].toArray s = true := hts _ (List.mem_cons_of_mem _ (List.mem_append_left _ (List.mem_of_getElem? (i := 4) rfl)))
  have lk5 : (Cond.fieldLink RX4 64 "ThriftLockModel" "latest" "I").before [.ref (tl_ad g 34), .int a1].toArray s = true := hts _ (List.mem_cons_of_mem _ (List.mem_append_left _ (List.mem_of_getElem? (i := 5) rfl)))
  unfold fX4_count at h
  refine lv_iload_n (pc := 0) hx hb dX4_count_0 rfl (lv_at hl 1 rfl) ?_
  by_cases c1 : a1 = 0
  · replace h := (if_pos c1).symm.trans h
    refine tl_swIn (pc := 1) (tgt := 52) hx hb (kv := 0) c1 dX4_count_1 (by decide) (by decide) rfl (by decide) ?_
    refine lv_aload_n (pc := 52) hx hb dX4_count_52 rfl (lv_at hl 0 rfl) ?_
    refine tl_gM_7 (pc := 53) C hc4 hP lk0 dX4_count_53 ?_
    exact tl_Ripr (pc := 56) C h hP hS dX4_count_56
  · replace h := (if_neg c1).symm.trans h
    by_cases c2 : a1 = 1
    · replace h := (if_pos c2).symm.trans h
      refine tl_swIn (pc := 1) (tgt := 57) hx hb (kv := 1) c2 dX4_count_1 (by decide) (by decide) rfl (by decide) ?_
      refine lv_aload_n (pc := 57) hx hb dX4_count_57 rfl (lv_at hl 0 rfl) ?_
      refine lv_iconst (pc := 58) (v := 0) hx hb dX4_count_58 (by decide) ?_
      obtain ⟨r3, er3, h⟩ := tl_o1s h
      refine caX4_manyWait (pc := 59) C hts hP hS er3 gX4_count_X4_manyWait ⟨Nat.le_of_ble_eq_true rfl, Nat.le_of_ble_eq_true rfl⟩ hl.1 (Nat.le_of_ble_eq_true rfl) dX4_count_59 (fun H locs hP hS => ?_)
      refine lv_aload_n (pc := 62) hx hb dX4_count_62 rfl (lv_at hl 0 rfl) ?_
      refine lv_iconst (pc := 63) (v := 1) hx hb dX4_count_63 (by decide) ?_
      obtain ⟨r4, er4, h⟩ := tl_o1s h
      refine caX4_manyWait (pc := 64) C hts hP hS er4 gX4_count_X4_manyWait ⟨Nat.le_of_ble_eq_true rfl, Nat.le_of_ble_eq_true rfl⟩ hl.1 (Nat.le_of_ble_eq_true rfl) dX4_count_64 (fun H locs hP hS => ?_)
      refine lv_iadd (pc := 67) hx hb dX4_count_67 ?_
      exact tl_Ripr (pc := 68) C h hP hS dX4_count_68
    · replace h := (if_neg c2).symm.trans h
      by_cases c5 : a1 = 2
      · replace h := (if_pos c5).symm.trans h
        refine tl_swIn (pc := 1) (tgt := 69) hx hb (kv := 2) c5 dX4_count_1 (by decide) (by decide) rfl (by decide) ?_
        refine lv_aload_n (pc := 69) hx hb dX4_count_69 rfl (lv_at hl 0 rfl) ?_
        refine tl_gM_25 (pc := 70) C hc4 hP lk1 dX4_count_70 ?_
        exact tl_Ripr (pc := 73) C h hP hS dX4_count_73
      · replace h := (if_neg c5).symm.trans h
        by_cases c6 : a1 = 3
        · replace h := (if_pos c6).symm.trans h
          refine tl_swIn (pc := 1) (tgt := 74) hx hb (kv := 3) c6 dX4_count_1 (by decide) (by decide) rfl (by decide) ?_
          refine lv_aload_n (pc := 74) hx hb dX4_count_74 rfl (lv_at hl 0 rfl) ?_
          refine lv_iconst (pc := 75) (v := 0) hx hb dX4_count_75 (by decide) ?_
          obtain ⟨r7, er7, h⟩ := tl_nm h
          refine caX4_chamberBy (pc := 76) C hts hP hS er7 gX4_count_X4_chamberBy ⟨Nat.le_of_ble_eq_true rfl, Nat.le_of_ble_eq_true rfl⟩ hl.1 (Nat.le_of_ble_eq_true rfl) dX4_count_76 (fun H locs hP hS => ?_)
          exact tl_Ripr (pc := 79) C h hP hS dX4_count_79
        · replace h := (if_neg c6).symm.trans h
          by_cases c8 : a1 = 4
          · replace h := (if_pos c8).symm.trans h
            refine tl_swIn (pc := 1) (tgt := 80) hx hb (kv := 4) c8 dX4_count_1 (by decide) (by decide) rfl (by decide) ?_
            refine lv_aload_n (pc := 80) hx hb dX4_count_80 rfl (lv_at hl 0 rfl) ?_
            obtain ⟨r9, er9, h⟩ := tl_o1s h
            refine caX4_inBasins (pc := 81) C hts hP hS er9 gX4_count_X4_inBasins ⟨Nat.le_of_ble_eq_true rfl, Nat.le_of_ble_eq_true rfl⟩ hl.1 (Nat.le_of_ble_eq_true rfl) dX4_count_81 (fun H locs hP hS => ?_)
            exact tl_Ripr (pc := 84) C h hP hS dX4_count_84
          · replace h := (if_neg c8).symm.trans h
            by_cases c10 : a1 = 5
            · replace h := (if_pos c10).symm.trans h
              refine tl_swIn (pc := 1) (tgt := 85) hx hb (kv := 5) c10 dX4_count_1 (by decide) (by decide) rfl (by decide) ?_
              refine lv_aload_n (pc := 85) hx hb dX4_count_85 rfl (lv_at hl 0 rfl) ?_
              refine tl_gM_26 (pc := 86) C hc4 hP lk2 dX4_count_86 ?_
              exact tl_Ripr (pc := 89) C h hP hS dX4_count_89
            · replace h := (if_neg c10).symm.trans h
              by_cases c11 : a1 = 6
              · replace h := (if_pos c11).symm.trans h
                refine tl_swIn (pc := 1) (tgt := 90) hx hb (kv := 6) c11 dX4_count_1 (by decide) (by decide) rfl (by decide) ?_
                refine lv_aload_n (pc := 90) hx hb dX4_count_90 rfl (lv_at hl 0 rfl) ?_
                refine tl_gM_27 (pc := 91) C hc4 hP lk3 dX4_count_91 ?_
                exact tl_Ripr (pc := 94) C h hP hS dX4_count_94
              · replace h := (if_neg c11).symm.trans h
                by_cases c12 : a1 = 7
                · replace h := (if_pos c12).symm.trans h
                  refine tl_swIn (pc := 1) (tgt := 95) hx hb (kv := 7) c12 dX4_count_1 (by decide) (by decide) rfl (by decide) ?_
                  refine lv_aload_n (pc := 95) hx hb dX4_count_95 rfl (lv_at hl 0 rfl) ?_
                  refine tl_gM_14 (pc := 96) C hc4 hP lk4 dX4_count_96 ?_
                  exact tl_Ripr (pc := 99) C h hP hS dX4_count_99
                · replace h := (if_neg c12).symm.trans h
                  by_cases c13 : a1 = 8
                  · replace h := (if_pos c13).symm.trans h
                    refine tl_swIn (pc := 1) (tgt := 100) hx hb (kv := 8) c13 dX4_count_1 (by decide) (by decide) rfl (by decide) ?_
                    refine lv_aload_n (pc := 100) hx hb dX4_count_100 rfl (lv_at hl 0 rfl) ?_
                    refine tl_gM_4 (pc := 101) C hc4 hP lk5 dX4_count_101 ?_
                    exact tl_Ripr (pc := 104) C h hP hS dX4_count_104
                  · replace h := (if_neg c13).symm.trans h
                    have hsw : (a1).toInt < 0 ∨ 8 < (a1).toInt := by
                      have n0 := tl_ne (k := 0) c1 (by decide) (by decide)
                      have n1 := tl_ne (k := 1) c2 (by decide) (by decide)
                      have n2 := tl_ne (k := 2) c5 (by decide) (by decide)
                      have n3 := tl_ne (k := 3) c6 (by decide) (by decide)
                      have n4 := tl_ne (k := 4) c8 (by decide) (by decide)
                      have n5 := tl_ne (k := 5) c10 (by decide) (by decide)
                      have n6 := tl_ne (k := 6) c11 (by decide) (by decide)
                      have n7 := tl_ne (k := 7) c12 (by decide) (by decide)
                      have n8 := tl_ne (k := 8) c13 (by decide) (by decide)
                      omega
                    refine lv_tableOut (pc := 1) (tgt := 105) hx hb dX4_count_1 hsw (by decide) ?_
                    refine lv_bipush (pc := 105) (v := (-2)) hx hb dX4_count_105 (by decide) ?_
                    exact tl_Ripr (pc := 107) C h hP hS dX4_count_107
theorem caX4_count {p : Program} {l : Launch} {e : Env} {R : Room} {s : State} {m : MethodId} {args : Array Value} {below : List Frame} {meth : Method} {c : Code} {H : Heap} {locs : List Loc} {Q : State → Prop} {cc : ByteArray} {pc : Nat} {ls : Array Slot} {rest : List Value} {g : tl_G} {σ : tl_St} {H0 : Heap} {nL : Nat} {own : String} {ret : Option FieldType} {index : Nat} (C : tl_C p s m meth c cc nL own ret g) {Ts : List Cond} (hts : ∀ w ∈ Ts, w.before args s = true) (hP : va_P g.1 vwCl (tl_W g σ) H) (hS : va_S (tl_A g) H0 H locs) {a1 : Int32} {ro : Int32} (h : fX4_count σ a1 = some ro) (hG : GoodIn Ts (wsV own index RX4 yX4_count wsX4_count)) (hR : 1 + 1 ≤ R.frames ∧ 8 + (2 + 11) + 23 ≤ R.locals) (hls : ls.size = nL) (hrm : (rest.map fun v => v.category).sum ≤ 8) (hdg : decode cc pc = .ok (.invokevirtual index, 3)) (kk : ∀ (H1 : Heap) (locs1 : List Loc), va_P g.1 vwCl (tl_W g σ) H1 → va_S (tl_A g) H0 H1 locs1 → W p l e R s m args below meth c H1 locs1 0 0 Q (F0 m (pc + 3) ls (.int ro :: rest))) : W p l e R s m args below meth c H locs 0 0 Q (F0 m pc ls (.int a1 :: .ref (tl_ad g 34) :: rest)) :=
  tl_goi (tl_callV C hts hP (okX4_count l g C.2.2.2.2.2.2.2 σ a1 ro h) rfl rfl rfl (n := 1) (by decide +kernel) rfl (ci := 4) rfl (tl_kM g σ) hG hR hls rfl hrm hdg) hS kk
abbrev rX4_digest : Room := { frames := 5, cells := 0, slots := 0, locals := 121 }
set_option maxHeartbeats 4000000 in
set_option maxRecDepth 100000 in
theorem okX4_digest (l : Launch) (g : tl_G) (hI : tl_I g) (σ : tl_St) (ro : Int64) (σo : tl_St) (h : fX4_digest σ = some (ro, σo)) : Met l yX4_digest wsX4_digest rX4_digest (va_Pc [.ref (tl_ad g 34)] (tl_Pre g σ)) (tl_Ql g ro σo) 0 0 (tl_A g) := by
  refine tl_enter (cc := cX4_digest) (maxL := 5) (ret := (some .long)) (own := RX4) hI (by decide) rfl rfl (Nat.le_of_ble_eq_true rfl) ?_
  intro p e s m below meth c C hts H locs hP hS ls hl
  have hx := C.1
  have hb := C.2.1
  have hl : lv_has ls 5 [(0, .ref (tl_ad g 34))] := hl
  have hc4 : ∀ w ∈ u_ws RX4 TX4 30, w.before [.ref (tl_ad g 34)].toArray s = true := fun w hw => hts w (List.mem_cons_of_mem _ (List.mem_append_right _ hw))
  have lk0 : (Cond.constantLong RX4 229 (17)).before [.ref (tl_ad g 34)].toArray s = true := hts _ (List.mem_cons_of_mem _ (List.mem_append_left _ (List.mem_append_left _ (List.mem_of_getElem? (i := 0) rfl))))
  have lk1 : (Cond.constantLong RX4 231 (31)).before [.ref (tl_ad g 34)].toArray s = true := hts _ (List.mem_cons_of_mem _ (List.mem_append_left _ (List.mem_append_left _ (List.mem_of_getElem? (i := 1) rfl))))
  have lk2 : (Cond.fieldLink RX4 174 "ThriftLockModel" "turns" "I").before [.ref (tl_ad g 34)].toArray s = true := hts _ (List.mem_cons_of_mem _ (List.mem_append_left _ (List.mem_append_left _ (List.mem_of_getElem? (i := 3) rfl))))
  have lk3 : (Cond.fieldLink RX4 53 "ThriftLockModel" "ledger" "[I").before [.ref (tl_ad g 34)].toArray s = true := hts _ (List.mem_cons_of_mem _ (List.mem_append_left _ (List.mem_append_left _ (List.mem_of_getElem? (i := 4) rfl))))
  have lk4 : (Cond.fieldLink RX4 96 "ThriftLockModel" "basins" "I").before [.ref (tl_ad g 34)].toArray s = true := hts _ (List.mem_cons_of_mem _ (List.mem_append_left _ (List.mem_append_left _ (List.mem_of_getElem? (i := 2) rfl))))
  unfold fX4_digest at h
  refine lv_ldc2 (pc := 0) (v := 17) hx hb C.2.2.2.1 lk0 dX4_digest_0 ?_
  refine lv_lstore_n (pc := 3) (lv' := [(1, .long 17), (0, .ref (tl_ad g 34))]) hx hb dX4_digest_3 rfl hl (by decide) rfl (fun ls hl => ?_)
  refine lv_iconst (pc := 4) (v := 0) hx hb dX4_digest_4 (by decide) ?_
  refine lv_istore_n (pc := 5) (lv' := [(3, .int 0), (1, .long 17), (0, .ref (tl_ad g 34))]) hx hb dX4_digest_5 rfl hl (by decide) rfl (fun ls hl => ?_)
  obtain ⟨k2, ek2, h⟩ := tl_j1 h
  have hZ2 : ∀ (x1 : Int64) (H : Heap) (locs : List Loc) (ls : Array Slot), k2 x1 = some (ro, σo) → va_P g.1 vwCl (tl_W g σ) H → va_S (tl_A g) s.heap H locs → lv_has ls 5 [(0, .ref (tl_ad g 34)), (1, .long x1)] → W p l e rX4_digest s m [.ref (tl_ad g 34)].toArray below meth c H locs 0 0 (MQ below (tl_Ql g ro σo) [.ref (tl_ad g 34)].toArray s 0 0 (tl_A g)) (F0 m 31 ls []) := by
    intro x1 H locs ls h hP hS hl
    replace h := (ek2 x1).trans h
    refine lv_iconst (pc := 31) (v := 0) hx hb dX4_digest_31 (by decide) ?_
    refine lv_istore_n (pc := 32) (lv' := [(3, .int 0), (0, .ref (tl_ad g 34)), (1, .long x1)]) hx hb dX4_digest_32 rfl hl (by decide) rfl (fun ls hl => ?_)
    obtain ⟨k5, ek5, h⟩ := tl_j2 h
    have hZ5 : ∀ (σ3 : tl_St) (x4 : Int64) (H : Heap) (locs : List Loc) (ls : Array Slot), k5 σ3 x4 = some (ro, σo) → va_P g.1 vwCl (tl_W g σ3) H → va_S (tl_A g) s.heap H locs → lv_has ls 5 [(0, .ref (tl_ad g 34)), (1, .long x4)] → W p l e rX4_digest s m [.ref (tl_ad g 34)].toArray below meth c H locs 0 0 (MQ below (tl_Ql g ro σo) [.ref (tl_ad g 34)].toArray s 0 0 (tl_A g)) (F0 m 106 ls []) := by
      intro σ3 x4 H locs ls h hP hS hl
      replace h := (ek5 σ3 x4).trans h
      refine lv_iconst (pc := 106) (v := 0) hx hb dX4_digest_106 (by decide) ?_
      refine lv_istore_n (pc := 107) (lv' := [(3, .int 0), (0, .ref (tl_ad g 34)), (1, .long x4)]) hx hb dX4_digest_107 rfl hl (by decide) rfl (fun ls hl => ?_)
      obtain ⟨k7, ek7, h⟩ := tl_j1 h
      have hZ7 : ∀ (x6 : Int64) (H : Heap) (locs : List Loc) (ls : Array Slot), k7 x6 = some (ro, σo) → va_P g.1 vwCl (tl_W g σ3) H → va_S (tl_A g) s.heap H locs → lv_has ls 5 [(0, .ref (tl_ad g 34)), (1, .long x6)] → W p l e rX4_digest s m [.ref (tl_ad g 34)].toArray below meth c H locs 0 0 (MQ below (tl_Ql g ro σo) [.ref (tl_ad g 34)].toArray s 0 0 (tl_A g)) (F0 m 132 ls []) := by
        intro x6 H locs ls h hP hS hl
        replace h := (ek7 x6).trans h
        refine lv_iconst (pc := 132) (v := 0) hx hb dX4_digest_132 (by decide) ?_
        refine lv_istore_n (pc := 133) (lv' := [(3, .int 0), (0, .ref (tl_ad g 34)), (1, .long x6)]) hx hb dX4_digest_133 rfl hl (by decide) rfl (fun ls hl => ?_)
        obtain ⟨k9, ek9, h⟩ := tl_j1 h
        have hZ9 : ∀ (x8 : Int64) (H : Heap) (locs : List Loc) (ls : Array Slot), k9 x8 = some (ro, σo) → va_P g.1 vwCl (tl_W g σ3) H → va_S (tl_A g) s.heap H locs → lv_has ls 5 [(0, .ref (tl_ad g 34)), (1, .long x8)] → W p l e rX4_digest s m [.ref (tl_ad g 34)].toArray below meth c H locs 0 0 (MQ below (tl_Ql g ro σo) [.ref (tl_ad g 34)].toArray s 0 0 (tl_A g)) (F0 m 187 ls []) := by
          intro x8 H locs ls h hP hS hl
          replace h := (ek9 x8).trans h
          refine lv_iconst (pc := 187) (v := 0) hx hb dX4_digest_187 (by decide) ?_
          refine lv_istore_n (pc := 188) (lv' := [(3, .int 0), (0, .ref (tl_ad g 34)), (1, .long x8)]) hx hb dX4_digest_188 rfl hl (by decide) rfl (fun ls hl => ?_)
          obtain ⟨k11, ek11, h⟩ := tl_j1 h
          have hZ11 : ∀ (x10 : Int64) (H : Heap) (locs : List Loc) (ls : Array Slot), k11 x10 = some (ro, σo) → va_P g.1 vwCl (tl_W g σ3) H → va_S (tl_A g) s.heap H locs → lv_has ls 5 [(0, .ref (tl_ad g 34)), (1, .long x10)] → W p l e rX4_digest s m [.ref (tl_ad g 34)].toArray below meth c H locs 0 0 (MQ below (tl_Ql g ro σo) [.ref (tl_ad g 34)].toArray s 0 0 (tl_A g)) (F0 m 213 ls []) := by
            intro x10 H locs ls h hP hS hl
            replace h := (ek11 x10).trans h
            refine lv_iconst (pc := 213) (v := 0) hx hb dX4_digest_213 (by decide) ?_
            refine lv_istore_n (pc := 214) (lv' := [(3, .int 0), (0, .ref (tl_ad g 34)), (1, .long x10)]) hx hb dX4_digest_214 rfl hl (by decide) rfl (fun ls hl => ?_)
            obtain ⟨k13, ek13, h⟩ := tl_j1 h
            have hZ13 : ∀ (x12 : Int64) (H : Heap) (locs : List Loc) (ls : Array Slot), k13 x12 = some (ro, σo) → va_P g.1 vwCl (tl_W g σ3) H → va_S (tl_A g) s.heap H locs → lv_has ls 5 [(0, .ref (tl_ad g 34)), (1, .long x12)] → W p l e rX4_digest s m [.ref (tl_ad g 34)].toArray below meth c H locs 0 0 (MQ below (tl_Ql g ro σo) [.ref (tl_ad g 34)].toArray s 0 0 (tl_A g)) (F0 m 246 ls []) := by
              intro x12 H locs ls h hP hS hl
              replace h := (ek13 x12).trans h
              refine lv_iconst (pc := 246) (v := 0) hx hb dX4_digest_246 (by decide) ?_
              refine lv_istore_n (pc := 247) (lv' := [(3, .int 0), (0, .ref (tl_ad g 34)), (1, .long x12)]) hx hb dX4_digest_247 rfl hl (by decide) rfl (fun ls hl => ?_)
              obtain ⟨k15, ek15, h⟩ := tl_j1 h
              have hZ15 : ∀ (x14 : Int64) (H : Heap) (locs : List Loc) (ls : Array Slot), k15 x14 = some (ro, σo) → va_P g.1 vwCl (tl_W g σ3) H → va_S (tl_A g) s.heap H locs → lv_has ls 5 [(0, .ref (tl_ad g 34)), (1, .long x14)] → W p l e rX4_digest s m [.ref (tl_ad g 34)].toArray below meth c H locs 0 0 (MQ below (tl_Ql g ro σo) [.ref (tl_ad g 34)].toArray s 0 0 (tl_A g)) (F0 m 272 ls []) := by
                intro x14 H locs ls h hP hS hl
                replace h := (ek15 x14).trans h
                refine lv_aload_n (pc := 272) hx hb dX4_digest_272 rfl (lv_at hl 0 rfl) ?_
                obtain ⟨σ16, eσ16, h⟩ := tl_o1s h
                refine caX4_looks (pc := 273) C hts hP hS eσ16 gX4_digest_X4_looks ⟨Nat.le_of_ble_eq_true rfl, Nat.le_of_ble_eq_true rfl⟩ hl.1 (Nat.le_of_ble_eq_true rfl) dX4_digest_273 (fun H locs hP hS => ?_)
                refine lv_iconst (pc := 276) (v := (-1)) hx hb dX4_digest_276 (by decide) ?_
                refine lv_istore_n (pc := 277) (lv' := [(3, .int (-1)), (0, .ref (tl_ad g 34)), (1, .long x14)]) hx hb dX4_digest_277 rfl hl (by decide) rfl (fun ls hl => ?_)
                obtain ⟨k18, ek18, h⟩ := tl_j1 h
                have hZ18 : ∀ (x17 : Int64) (H : Heap) (locs : List Loc) (ls : Array Slot), k18 x17 = some (ro, σo) → va_P g.1 vwCl (tl_W g σ16) H → va_S (tl_A g) s.heap H locs → lv_has ls 5 [(0, .ref (tl_ad g 34)), (1, .long x17)] → W p l e rX4_digest s m [.ref (tl_ad g 34)].toArray below meth c H locs 0 0 (MQ below (tl_Ql g ro σo) [.ref (tl_ad g 34)].toArray s 0 0 (tl_A g)) (F0 m 303 ls []) := by
                  intro x17 H locs ls h hP hS hl
                  replace h := (ek18 x17).trans h
                  refine lv_ldc2 (pc := 303) (v := 31) hx hb C.2.2.2.1 lk1 dX4_digest_303 ?_
                  refine lv_lload_n (pc := 306) hx hb dX4_digest_306 rfl (lv_at hl 1 rfl) ?_
                  refine lv_lmul (pc := 307) hx hb dX4_digest_307 ?_
                  refine lv_aload_n (pc := 308) hx hb dX4_digest_308 rfl (lv_at hl 0 rfl) ?_
                  refine lv_iconst (pc := 309) (v := 1) hx hb dX4_digest_309 (by decide) ?_
                  obtain ⟨r19, σ20, er19, h⟩ := tl_o2s h
                  refine caX4_aheadOf (pc := 310) C hts hP hS er19 gX4_digest_X4_aheadOf ⟨Nat.le_of_ble_eq_true rfl, Nat.le_of_ble_eq_true rfl⟩ hl.1 (Nat.le_of_ble_eq_true rfl) dX4_digest_310 (fun H locs hP hS => ?_)
                  refine lv_i2l (pc := 313) hx hb dX4_digest_313 rfl ?_
                  refine lv_ladd (pc := 314) hx hb dX4_digest_314 ?_
                  obtain ⟨x21, ex21, h⟩ := tl_nm h
                  refine tl_tl ex21 ?_
                  refine lv_lstore_n (pc := 315) (lv' := [(1, .long x21), (0, .ref (tl_ad g 34))]) hx hb dX4_digest_315 rfl hl (by decide) rfl (fun ls hl => ?_)
                  refine lv_ldc2 (pc := 316) (v := 31) hx hb C.2.2.2.1 lk1 dX4_digest_316 ?_
                  refine lv_lload_n (pc := 319) hx hb dX4_digest_319 rfl (lv_at hl 0 rfl) ?_
                  refine lv_lmul (pc := 320) hx hb dX4_digest_320 ?_
                  refine lv_aload_n (pc := 321) hx hb dX4_digest_321 rfl (lv_at hl 1 rfl) ?_
                  refine lv_iconst (pc := 322) (v := 2) hx hb dX4_digest_322 (by decide) ?_
                  obtain ⟨r22, σ23, er22, h⟩ := tl_o2s h
                  refine caX4_aheadOf (pc := 323) C hts hP hS er22 gX4_digest_X4_aheadOf ⟨Nat.le_of_ble_eq_true rfl, Nat.le_of_ble_eq_true rfl⟩ hl.1 (Nat.le_of_ble_eq_true rfl) dX4_digest_323 (fun H locs hP hS => ?_)
                  refine lv_i2l (pc := 326) hx hb dX4_digest_326 rfl ?_
                  refine lv_ladd (pc := 327) hx hb dX4_digest_327 ?_
                  obtain ⟨x24, ex24, h⟩ := tl_nm h
                  refine tl_tl ex24 ?_
                  refine lv_lstore_n (pc := 328) (lv' := [(1, .long x24), (0, .ref (tl_ad g 34))]) hx hb dX4_digest_328 rfl hl (by decide) rfl (fun ls hl => ?_)
                  refine lv_ldc2 (pc := 329) (v := 31) hx hb C.2.2.2.1 lk1 dX4_digest_329 ?_
                  refine lv_lload_n (pc := 332) hx hb dX4_digest_332 rfl (lv_at hl 0 rfl) ?_
                  refine lv_lmul (pc := 333) hx hb dX4_digest_333 ?_
                  refine lv_aload_n (pc := 334) hx hb dX4_digest_334 rfl (lv_at hl 1 rfl) ?_
                  refine lv_bipush (pc := 335) (v := 10) hx hb dX4_digest_335 (by decide) ?_
                  obtain ⟨r25, σ26, er25, h⟩ := tl_o2s h
                  refine caX4_aheadOf (pc := 337) C hts hP hS er25 gX4_digest_X4_aheadOf ⟨Nat.le_of_ble_eq_true rfl, Nat.le_of_ble_eq_true rfl⟩ hl.1 (Nat.le_of_ble_eq_true rfl) dX4_digest_337 (fun H locs hP hS => ?_)
                  refine lv_i2l (pc := 340) hx hb dX4_digest_340 rfl ?_
                  refine lv_ladd (pc := 341) hx hb dX4_digest_341 ?_
                  obtain ⟨x27, ex27, h⟩ := tl_nm h
                  refine tl_tl ex27 ?_
                  refine lv_lstore_n (pc := 342) (lv' := [(1, .long x27), (0, .ref (tl_ad g 34))]) hx hb dX4_digest_342 rfl hl (by decide) rfl (fun ls hl => ?_)
                  refine lv_iconst (pc := 343) (v := 0) hx hb dX4_digest_343 (by decide) ?_
                  refine lv_istore_n (pc := 344) (lv' := [(3, .int 0), (1, .long x27), (0, .ref (tl_ad g 34))]) hx hb dX4_digest_344 rfl hl (by decide) rfl (fun ls hl => ?_)
                  obtain ⟨k30, ek30, h⟩ := tl_j2 h
                  have hZ30 : ∀ (σ28 : tl_St) (x29 : Int64) (H : Heap) (locs : List Loc) (ls : Array Slot), k30 σ28 x29 = some (ro, σo) → va_P g.1 vwCl (tl_W g σ28) H → va_S (tl_A g) s.heap H locs → lv_has ls 5 [(1, .long x29)] → W p l e rX4_digest s m [.ref (tl_ad g 34)].toArray below meth c H locs 0 0 (MQ below (tl_Ql g ro σo) [.ref (tl_ad g 34)].toArray s 0 0 (tl_A g)) (F0 m 369 ls []) := by
                    intro σ28 x29 H locs ls h hP hS hl
                    replace h := (ek30 σ28 x29).trans h
                    refine lv_lload_n (pc := 369) hx hb dX4_digest_369 rfl (lv_at hl 0 rfl) ?_
                    exact tl_Rlpw (pc := 370) C h hP hS dX4_digest_370
                  have hL345 : ∀ (n : Nat) (σ31 : tl_St) (x32 : Int64) (x33 : Int32) (H : Heap) (locs : List Loc) (ls : Array Slot), fX4_digest_L345 k30 n σ31 x32 x33 = some (ro, σo) → va_P g.1 vwCl (tl_W g σ31) H → va_S (tl_A g) s.heap H locs → lv_has ls 5 [(0, .ref (tl_ad g 34)), (1, .long x32), (3, .int x33)] → W p l e rX4_digest s m [.ref (tl_ad g 34)].toArray below meth c H locs 0 0 (MQ below (tl_Ql g ro σo) [.ref (tl_ad g 34)].toArray s 0 0 (tl_A g)) (F0 m 345 ls []) := by
                    intro n
                    induction n with
                    | zero =>
                      intro σ31 x32 x33 H locs ls h hP hS hl
                      rw [fX4_digest_L345] at h
                      cases h
                    | succ n ih =>
                      intro σ31 x32 x33 H locs ls h hP hS hl
                      rw [fX4_digest_L345] at h
                      refine lv_iload_n (pc := 345) hx hb dX4_digest_345 rfl (lv_at hl 2 rfl) ?_
                      refine lv_iconst (pc := 346) (v := 2) hx hb dX4_digest_346 (by decide) ?_
                      refine lv_icmp_ge (pc := 347) (tgt := 369) hx hb dX4_digest_347 (by decide) (fun c34 => ?_) (fun c34 => ?_)
                      · replace h := (if_pos c34).symm.trans h
                        exact hZ30 σ31 x32 _ _ _ h hP hS (lv_sub hl [1] rfl)
                      · replace h := (if_neg c34).symm.trans h
                        refine lv_ldc2 (pc := 350) (v := 31) hx hb C.2.2.2.1 lk1 dX4_digest_350 ?_
                        refine lv_lload_n (pc := 353) hx hb dX4_digest_353 rfl (lv_at hl 1 rfl) ?_
                        refine lv_lmul (pc := 354) hx hb dX4_digest_354 ?_
                        refine lv_aload_n (pc := 355) hx hb dX4_digest_355 rfl (lv_at hl 0 rfl) ?_
                        refine lv_iload_n (pc := 356) hx hb dX4_digest_356 rfl (lv_at hl 2 rfl) ?_
                        obtain ⟨r35, σ36, er35, h⟩ := tl_o2s h
                        refine caX4_needlessBy (pc := 357) C hts hP hS er35 gX4_digest_X4_needlessBy ⟨Nat.le_of_ble_eq_true rfl, Nat.le_of_ble_eq_true rfl⟩ hl.1 (Nat.le_of_ble_eq_true rfl) dX4_digest_357 (fun H locs hP hS => ?_)
                        refine lv_i2l (pc := 360) hx hb dX4_digest_360 rfl ?_
                        refine lv_ladd (pc := 361) hx hb dX4_digest_361 ?_
                        obtain ⟨x37, ex37, h⟩ := tl_nm h
                        refine tl_tl ex37 ?_
                        refine lv_lstore_n (pc := 362) (lv' := [(1, .long x37), (0, .ref (tl_ad g 34)), (3, .int x33)]) hx hb dX4_digest_362 rfl hl (by decide) rfl (fun ls hl => ?_)
                        obtain ⟨x38, ex38, h⟩ := tl_nm h
                        refine lv_iinc (pc := 363) (v := x38) (lv' := [(3, .int x38), (1, .long x37), (0, .ref (tl_ad g 34))]) hx hb dX4_digest_363 hl (k := 2) rfl ex38 (by decide) rfl (fun ls hl => ?_)
                        refine lv_goto (pc := 366) (tgt := 345) hx hb dX4_digest_366 (by decide) ?_
                        exact ih σ36 x37 x38 _ _ _ h hP hS (lv_sub hl [2, 1, 0] rfl)
                  exact hL345 1000 σ26 x27 0 _ _ _ h hP hS (lv_sub hl [2, 1, 0] rfl)
                have hL278 : ∀ (n : Nat) (x39 : Int64) (x40 : Int32) (H : Heap) (locs : List Loc) (ls : Array Slot), fX4_digest_L278 σ16 k18 n x39 x40 = some (ro, σo) → va_P g.1 vwCl (tl_W g σ16) H → va_S (tl_A g) s.heap H locs → lv_has ls 5 [(0, .ref (tl_ad g 34)), (1, .long x39), (3, .int x40)] → W p l e rX4_digest s m [.ref (tl_ad g 34)].toArray below meth c H locs 0 0 (MQ below (tl_Ql g ro σo) [.ref (tl_ad g 34)].toArray s 0 0 (tl_A g)) (F0 m 278 ls []) := by
                  intro n
                  induction n with
                  | zero =>
                    intro x39 x40 H locs ls h hP hS hl
                    rw [fX4_digest_L278] at h
                    cases h
                  | succ n ih =>
                    intro x39 x40 H locs ls h hP hS hl
                    rw [fX4_digest_L278] at h
                    refine lv_iload_n (pc := 278) hx hb dX4_digest_278 rfl (lv_at hl 2 rfl) ?_
                    refine lv_bipush (pc := 279) (v := 41) hx hb dX4_digest_279 (by decide) ?_
                    refine lv_icmp_ge (pc := 281) (tgt := 303) hx hb dX4_digest_281 (by decide) (fun c41 => ?_) (fun c41 => ?_)
                    · replace h := (if_pos c41).symm.trans h
                      exact hZ18 x39 _ _ _ h hP hS (lv_sub hl [0, 1] rfl)
                    · replace h := (if_neg c41).symm.trans h
                      refine lv_ldc2 (pc := 284) (v := 31) hx hb C.2.2.2.1 lk1 dX4_digest_284 ?_
                      refine lv_lload_n (pc := 287) hx hb dX4_digest_287 rfl (lv_at hl 1 rfl) ?_
                      refine lv_lmul (pc := 288) hx hb dX4_digest_288 ?_
                      refine lv_aload_n (pc := 289) hx hb dX4_digest_289 rfl (lv_at hl 0 rfl) ?_
                      refine lv_iload_n (pc := 290) hx hb dX4_digest_290 rfl (lv_at hl 2 rfl) ?_
                      obtain ⟨r42, er42, h⟩ := tl_o1s h
                      refine caX4_stepBy (pc := 291) C hts hP hS er42 gX4_digest_X4_stepBy ⟨Nat.le_of_ble_eq_true rfl, Nat.le_of_ble_eq_true rfl⟩ hl.1 (Nat.le_of_ble_eq_true rfl) dX4_digest_291 (fun H locs hP hS => ?_)
                      refine lv_i2l (pc := 294) hx hb dX4_digest_294 rfl ?_
                      refine lv_ladd (pc := 295) hx hb dX4_digest_295 ?_
                      obtain ⟨x43, ex43, h⟩ := tl_nm h
                      refine tl_tl ex43 ?_
                      refine lv_lstore_n (pc := 296) (lv' := [(1, .long x43), (0, .ref (tl_ad g 34)), (3, .int x40)]) hx hb dX4_digest_296 rfl hl (by decide) rfl (fun ls hl => ?_)
                      obtain ⟨x44, ex44, h⟩ := tl_nm h
                      refine lv_iinc (pc := 297) (v := x44) (lv' := [(3, .int x44), (1, .long x43), (0, .ref (tl_ad g 34))]) hx hb dX4_digest_297 hl (k := 2) rfl ex44 (by decide) rfl (fun ls hl => ?_)
                      refine lv_goto (pc := 300) (tgt := 278) hx hb dX4_digest_300 (by decide) ?_
                      exact ih x43 x44 _ _ _ h hP hS (lv_sub hl [2, 1, 0] rfl)
                exact hL278 1000 x14 (-1) _ _ _ h hP hS (lv_sub hl [1, 2, 0] rfl)
              have hL248 : ∀ (n : Nat) (x45 : Int64) (x46 : Int32) (H : Heap) (locs : List Loc) (ls : Array Slot), fX4_digest_L248 σ3 k15 n x45 x46 = some (ro, σo) → va_P g.1 vwCl (tl_W g σ3) H → va_S (tl_A g) s.heap H locs → lv_has ls 5 [(0, .ref (tl_ad g 34)), (1, .long x45), (3, .int x46)] → W p l e rX4_digest s m [.ref (tl_ad g 34)].toArray below meth c H locs 0 0 (MQ below (tl_Ql g ro σo) [.ref (tl_ad g 34)].toArray s 0 0 (tl_A g)) (F0 m 248 ls []) := by
                intro n
                induction n with
                | zero =>
                  intro x45 x46 H locs ls h hP hS hl
                  rw [fX4_digest_L248] at h
                  cases h
                | succ n ih =>
                  intro x45 x46 H locs ls h hP hS hl
                  rw [fX4_digest_L248] at h
                  refine lv_iload_n (pc := 248) hx hb dX4_digest_248 rfl (lv_at hl 2 rfl) ?_
                  refine lv_iconst (pc := 249) (v := 5) hx hb dX4_digest_249 (by decide) ?_
                  refine lv_icmp_ge (pc := 250) (tgt := 272) hx hb dX4_digest_250 (by decide) (fun c47 => ?_) (fun c47 => ?_)
                  · replace h := (if_pos c47).symm.trans h
                    exact hZ15 x45 _ _ _ h hP hS (lv_sub hl [0, 1] rfl)
                  · replace h := (if_neg c47).symm.trans h
                    refine lv_ldc2 (pc := 253) (v := 31) hx hb C.2.2.2.1 lk1 dX4_digest_253 ?_
                    refine lv_lload_n (pc := 256) hx hb dX4_digest_256 rfl (lv_at hl 1 rfl) ?_
                    refine lv_lmul (pc := 257) hx hb dX4_digest_257 ?_
                    refine lv_aload_n (pc := 258) hx hb dX4_digest_258 rfl (lv_at hl 0 rfl) ?_
                    refine lv_iload_n (pc := 259) hx hb dX4_digest_259 rfl (lv_at hl 2 rfl) ?_
                    obtain ⟨r48, er48, h⟩ := tl_o1s h
                    refine caX4_totalBy (pc := 260) C hts hP hS er48 gX4_digest_X4_totalBy ⟨Nat.le_of_ble_eq_true rfl, Nat.le_of_ble_eq_true rfl⟩ hl.1 (Nat.le_of_ble_eq_true rfl) dX4_digest_260 (fun H locs hP hS => ?_)
                    refine lv_i2l (pc := 263) hx hb dX4_digest_263 rfl ?_
                    refine lv_ladd (pc := 264) hx hb dX4_digest_264 ?_
                    obtain ⟨x49, ex49, h⟩ := tl_nm h
                    refine tl_tl ex49 ?_
                    refine lv_lstore_n (pc := 265) (lv' := [(1, .long x49), (0, .ref (tl_ad g 34)), (3, .int x46)]) hx hb dX4_digest_265 rfl hl (by decide) rfl (fun ls hl => ?_)
                    obtain ⟨x50, ex50, h⟩ := tl_nm h
                    refine lv_iinc (pc := 266) (v := x50) (lv' := [(3, .int x50), (1, .long x49), (0, .ref (tl_ad g 34))]) hx hb dX4_digest_266 hl (k := 2) rfl ex50 (by decide) rfl (fun ls hl => ?_)
                    refine lv_goto (pc := 269) (tgt := 248) hx hb dX4_digest_269 (by decide) ?_
                    exact ih x49 x50 _ _ _ h hP hS (lv_sub hl [2, 1, 0] rfl)
              exact hL248 1000 x12 0 _ _ _ h hP hS (lv_sub hl [1, 2, 0] rfl)
            have hL215 : ∀ (n : Nat) (x51 : Int64) (x52 : Int32) (H : Heap) (locs : List Loc) (ls : Array Slot), fX4_digest_L215 σ3 k13 n x51 x52 = some (ro, σo) → va_P g.1 vwCl (tl_W g σ3) H → va_S (tl_A g) s.heap H locs → lv_has ls 5 [(0, .ref (tl_ad g 34)), (1, .long x51), (3, .int x52)] → W p l e rX4_digest s m [.ref (tl_ad g 34)].toArray below meth c H locs 0 0 (MQ below (tl_Ql g ro σo) [.ref (tl_ad g 34)].toArray s 0 0 (tl_A g)) (F0 m 215 ls []) := by
              intro n
              induction n with
              | zero =>
                intro x51 x52 H locs ls h hP hS hl
                rw [fX4_digest_L215] at h
                cases h
              | succ n ih =>
                intro x51 x52 H locs ls h hP hS hl
                rw [fX4_digest_L215] at h
                refine lv_iload_n (pc := 215) hx hb dX4_digest_215 rfl (lv_at hl 2 rfl) ?_
                refine lv_bipush (pc := 216) (v := 9) hx hb dX4_digest_216 (by decide) ?_
                refine lv_aload_n (pc := 218) hx hb dX4_digest_218 rfl (lv_at hl 0 rfl) ?_
                refine tl_gM_25 (pc := 219) C hc4 hP lk2 dX4_digest_219 ?_
                refine lv_imul (pc := 222) hx hb dX4_digest_222 ?_
                refine lv_icmp_ge (pc := 223) (tgt := 246) hx hb dX4_digest_223 (by decide) (fun c53 => ?_) (fun c53 => ?_)
                · replace h := (if_pos c53).symm.trans h
                  exact hZ13 x51 _ _ _ h hP hS (lv_sub hl [0, 1] rfl)
                · replace h := (if_neg c53).symm.trans h
                  refine lv_ldc2 (pc := 226) (v := 31) hx hb C.2.2.2.1 lk1 dX4_digest_226 ?_
                  refine lv_lload_n (pc := 229) hx hb dX4_digest_229 rfl (lv_at hl 1 rfl) ?_
                  refine lv_lmul (pc := 230) hx hb dX4_digest_230 ?_
                  refine lv_aload_n (pc := 231) hx hb dX4_digest_231 rfl (lv_at hl 0 rfl) ?_
                  refine tl_gM_24 (pc := 232) C hc4 hP lk3 dX4_digest_232 ?_
                  refine lv_iload_n (pc := 235) hx hb dX4_digest_235 rfl (lv_at hl 2 rfl) ?_
                  obtain ⟨g54, h⟩ := tl_gd h
                  refine tl_ald (pc := 236) C hP (tl_a49 g) g54 dX4_digest_236 ?_
                  refine lv_i2l (pc := 237) hx hb dX4_digest_237 rfl ?_
                  refine lv_ladd (pc := 238) hx hb dX4_digest_238 ?_
                  obtain ⟨x55, ex55, h⟩ := tl_nm h
                  refine tl_tl ex55 ?_
                  refine lv_lstore_n (pc := 239) (lv' := [(1, .long x55), (0, .ref (tl_ad g 34)), (3, .int x52)]) hx hb dX4_digest_239 rfl hl (by decide) rfl (fun ls hl => ?_)
                  obtain ⟨x56, ex56, h⟩ := tl_nm h
                  refine lv_iinc (pc := 240) (v := x56) (lv' := [(3, .int x56), (1, .long x55), (0, .ref (tl_ad g 34))]) hx hb dX4_digest_240 hl (k := 2) rfl ex56 (by decide) rfl (fun ls hl => ?_)
                  refine lv_goto (pc := 243) (tgt := 215) hx hb dX4_digest_243 (by decide) ?_
                  exact ih x55 x56 _ _ _ h hP hS (lv_sub hl [2, 1, 0] rfl)
            exact hL215 1000 x10 0 _ _ _ h hP hS (lv_sub hl [1, 2, 0] rfl)
          have hL189 : ∀ (n : Nat) (x57 : Int64) (x58 : Int32) (H : Heap) (locs : List Loc) (ls : Array Slot), fX4_digest_L189 σ3 k11 n x57 x58 = some (ro, σo) → va_P g.1 vwCl (tl_W g σ3) H → va_S (tl_A g) s.heap H locs → lv_has ls 5 [(0, .ref (tl_ad g 34)), (1, .long x57), (3, .int x58)] → W p l e rX4_digest s m [.ref (tl_ad g 34)].toArray below meth c H locs 0 0 (MQ below (tl_Ql g ro σo) [.ref (tl_ad g 34)].toArray s 0 0 (tl_A g)) (F0 m 189 ls []) := by
            intro n
            induction n with
            | zero =>
              intro x57 x58 H locs ls h hP hS hl
              rw [fX4_digest_L189] at h
              cases h
            | succ n ih =>
              intro x57 x58 H locs ls h hP hS hl
              rw [fX4_digest_L189] at h
              refine lv_iload_n (pc := 189) hx hb dX4_digest_189 rfl (lv_at hl 2 rfl) ?_
              refine lv_iconst (pc := 190) (v := 2) hx hb dX4_digest_190 (by decide) ?_
              refine lv_icmp_ge (pc := 191) (tgt := 213) hx hb dX4_digest_191 (by decide) (fun c59 => ?_) (fun c59 => ?_)
              · replace h := (if_pos c59).symm.trans h
                exact hZ11 x57 _ _ _ h hP hS (lv_sub hl [0, 1] rfl)
              · replace h := (if_neg c59).symm.trans h
                refine lv_ldc2 (pc := 194) (v := 31) hx hb C.2.2.2.1 lk1 dX4_digest_194 ?_
                refine lv_lload_n (pc := 197) hx hb dX4_digest_197 rfl (lv_at hl 1 rfl) ?_
                refine lv_lmul (pc := 198) hx hb dX4_digest_198 ?_
                refine lv_aload_n (pc := 199) hx hb dX4_digest_199 rfl (lv_at hl 0 rfl) ?_
                refine lv_iload_n (pc := 200) hx hb dX4_digest_200 rfl (lv_at hl 2 rfl) ?_
                obtain ⟨r60, er60, h⟩ := tl_o1s h
                refine caX4_nextBy (pc := 201) C hts hP hS er60 gX4_digest_X4_nextBy ⟨Nat.le_of_ble_eq_true rfl, Nat.le_of_ble_eq_true rfl⟩ hl.1 (Nat.le_of_ble_eq_true rfl) dX4_digest_201 (fun H locs hP hS => ?_)
                refine lv_i2l (pc := 204) hx hb dX4_digest_204 rfl ?_
                refine lv_ladd (pc := 205) hx hb dX4_digest_205 ?_
                obtain ⟨x61, ex61, h⟩ := tl_nm h
                refine tl_tl ex61 ?_
                refine lv_lstore_n (pc := 206) (lv' := [(1, .long x61), (0, .ref (tl_ad g 34)), (3, .int x58)]) hx hb dX4_digest_206 rfl hl (by decide) rfl (fun ls hl => ?_)
                obtain ⟨x62, ex62, h⟩ := tl_nm h
                refine lv_iinc (pc := 207) (v := x62) (lv' := [(3, .int x62), (1, .long x61), (0, .ref (tl_ad g 34))]) hx hb dX4_digest_207 hl (k := 2) rfl ex62 (by decide) rfl (fun ls hl => ?_)
                refine lv_goto (pc := 210) (tgt := 189) hx hb dX4_digest_210 (by decide) ?_
                exact ih x61 x62 _ _ _ h hP hS (lv_sub hl [2, 1, 0] rfl)
          exact hL189 1000 x8 0 _ _ _ h hP hS (lv_sub hl [1, 2, 0] rfl)
        have hL134 : ∀ (n : Nat) (x63 : Int64) (x64 : Int32) (H : Heap) (locs : List Loc) (ls : Array Slot), fX4_digest_L134 σ3 k9 n x63 x64 = some (ro, σo) → va_P g.1 vwCl (tl_W g σ3) H → va_S (tl_A g) s.heap H locs → lv_has ls 5 [(0, .ref (tl_ad g 34)), (1, .long x63), (3, .int x64)] → W p l e rX4_digest s m [.ref (tl_ad g 34)].toArray below meth c H locs 0 0 (MQ below (tl_Ql g ro σo) [.ref (tl_ad g 34)].toArray s 0 0 (tl_A g)) (F0 m 134 ls []) := by
          intro n
          induction n with
          | zero =>
            intro x63 x64 H locs ls h hP hS hl
            rw [fX4_digest_L134] at h
            cases h
          | succ n ih =>
            intro x63 x64 H locs ls h hP hS hl
            rw [fX4_digest_L134] at h
            refine lv_iload_n (pc := 134) hx hb dX4_digest_134 rfl (lv_at hl 2 rfl) ?_
            refine lv_iconst (pc := 135) (v := 2) hx hb dX4_digest_135 (by decide) ?_
            refine lv_icmp_ge (pc := 136) (tgt := 187) hx hb dX4_digest_136 (by decide) (fun c65 => ?_) (fun c65 => ?_)
            · replace h := (if_pos c65).symm.trans h
              exact hZ9 x63 _ _ _ h hP hS (lv_sub hl [0, 1] rfl)
            · replace h := (if_neg c65).symm.trans h
              refine lv_ldc2 (pc := 139) (v := 31) hx hb C.2.2.2.1 lk1 dX4_digest_139 ?_
              refine lv_lload_n (pc := 142) hx hb dX4_digest_142 rfl (lv_at hl 1 rfl) ?_
              refine lv_lmul (pc := 143) hx hb dX4_digest_143 ?_
              refine lv_aload_n (pc := 144) hx hb dX4_digest_144 rfl (lv_at hl 0 rfl) ?_
              refine lv_iload_n (pc := 145) hx hb dX4_digest_145 rfl (lv_at hl 2 rfl) ?_
              refine lv_iconst (pc := 146) (v := (-1)) hx hb dX4_digest_146 (by decide) ?_
              obtain ⟨r66, er66, h⟩ := tl_o1s h
              refine caX4_waitsBy (pc := 147) C hts hP hS er66 gX4_digest_X4_waitsBy ⟨Nat.le_of_ble_eq_true rfl, Nat.le_of_ble_eq_true rfl⟩ hl.1 (Nat.le_of_ble_eq_true rfl) dX4_digest_147 (fun H locs hP hS => ?_)
              refine lv_i2l (pc := 150) hx hb dX4_digest_150 rfl ?_
              refine lv_ladd (pc := 151) hx hb dX4_digest_151 ?_
              obtain ⟨x67, ex67, h⟩ := tl_nm h
              refine tl_tl ex67 ?_
              refine lv_lstore_n (pc := 152) (lv' := [(1, .long x67), (0, .ref (tl_ad g 34)), (3, .int x64)]) hx hb dX4_digest_152 rfl hl (by decide) rfl (fun ls hl => ?_)
              refine lv_ldc2 (pc := 153) (v := 31) hx hb C.2.2.2.1 lk1 dX4_digest_153 ?_
              refine lv_lload_n (pc := 156) hx hb dX4_digest_156 rfl (lv_at hl 0 rfl) ?_
              refine lv_lmul (pc := 157) hx hb dX4_digest_157 ?_
              refine lv_aload_n (pc := 158) hx hb dX4_digest_158 rfl (lv_at hl 1 rfl) ?_
              refine lv_iload_n (pc := 159) hx hb dX4_digest_159 rfl (lv_at hl 2 rfl) ?_
              refine lv_iconst (pc := 160) (v := 0) hx hb dX4_digest_160 (by decide) ?_
              obtain ⟨r68, er68, h⟩ := tl_o1s h
              refine caX4_waitsBy (pc := 161) C hts hP hS er68 gX4_digest_X4_waitsBy ⟨Nat.le_of_ble_eq_true rfl, Nat.le_of_ble_eq_true rfl⟩ hl.1 (Nat.le_of_ble_eq_true rfl) dX4_digest_161 (fun H locs hP hS => ?_)
              refine lv_i2l (pc := 164) hx hb dX4_digest_164 rfl ?_
              refine lv_ladd (pc := 165) hx hb dX4_digest_165 ?_
              obtain ⟨x69, ex69, h⟩ := tl_nm h
              refine tl_tl ex69 ?_
              refine lv_lstore_n (pc := 166) (lv' := [(1, .long x69), (0, .ref (tl_ad g 34)), (3, .int x64)]) hx hb dX4_digest_166 rfl hl (by decide) rfl (fun ls hl => ?_)
              refine lv_ldc2 (pc := 167) (v := 31) hx hb C.2.2.2.1 lk1 dX4_digest_167 ?_
              refine lv_lload_n (pc := 170) hx hb dX4_digest_170 rfl (lv_at hl 0 rfl) ?_
              refine lv_lmul (pc := 171) hx hb dX4_digest_171 ?_
              refine lv_aload_n (pc := 172) hx hb dX4_digest_172 rfl (lv_at hl 1 rfl) ?_
              refine lv_iload_n (pc := 173) hx hb dX4_digest_173 rfl (lv_at hl 2 rfl) ?_
              refine lv_iconst (pc := 174) (v := 3) hx hb dX4_digest_174 (by decide) ?_
              obtain ⟨r70, er70, h⟩ := tl_o1s h
              refine caX4_waitsBy (pc := 175) C hts hP hS er70 gX4_digest_X4_waitsBy ⟨Nat.le_of_ble_eq_true rfl, Nat.le_of_ble_eq_true rfl⟩ hl.1 (Nat.le_of_ble_eq_true rfl) dX4_digest_175 (fun H locs hP hS => ?_)
              refine lv_i2l (pc := 178) hx hb dX4_digest_178 rfl ?_
              refine lv_ladd (pc := 179) hx hb dX4_digest_179 ?_
              obtain ⟨x71, ex71, h⟩ := tl_nm h
              refine tl_tl ex71 ?_
              refine lv_lstore_n (pc := 180) (lv' := [(1, .long x71), (0, .ref (tl_ad g 34)), (3, .int x64)]) hx hb dX4_digest_180 rfl hl (by decide) rfl (fun ls hl => ?_)
              obtain ⟨x72, ex72, h⟩ := tl_nm h
              refine lv_iinc (pc := 181) (v := x72) (lv' := [(3, .int x72), (1, .long x71), (0, .ref (tl_ad g 34))]) hx hb dX4_digest_181 hl (k := 2) rfl ex72 (by decide) rfl (fun ls hl => ?_)
              refine lv_goto (pc := 184) (tgt := 134) hx hb dX4_digest_184 (by decide) ?_
              exact ih x71 x72 _ _ _ h hP hS (lv_sub hl [2, 1, 0] rfl)
        exact hL134 1000 x6 0 _ _ _ h hP hS (lv_sub hl [1, 2, 0] rfl)
      have hL108 : ∀ (n : Nat) (x73 : Int64) (x74 : Int32) (H : Heap) (locs : List Loc) (ls : Array Slot), fX4_digest_L108 σ3 k7 n x73 x74 = some (ro, σo) → va_P g.1 vwCl (tl_W g σ3) H → va_S (tl_A g) s.heap H locs → lv_has ls 5 [(0, .ref (tl_ad g 34)), (1, .long x73), (3, .int x74)] → W p l e rX4_digest s m [.ref (tl_ad g 34)].toArray below meth c H locs 0 0 (MQ below (tl_Ql g ro σo) [.ref (tl_ad g 34)].toArray s 0 0 (tl_A g)) (F0 m 108 ls []) := by
        intro n
        induction n with
        | zero =>
          intro x73 x74 H locs ls h hP hS hl
          rw [fX4_digest_L108] at h
          cases h
        | succ n ih =>
          intro x73 x74 H locs ls h hP hS hl
          rw [fX4_digest_L108] at h
          refine lv_iload_n (pc := 108) hx hb dX4_digest_108 rfl (lv_at hl 2 rfl) ?_
          refine lv_iconst (pc := 109) (v := 3) hx hb dX4_digest_109 (by decide) ?_
          refine lv_icmp_ge (pc := 110) (tgt := 132) hx hb dX4_digest_110 (by decide) (fun c75 => ?_) (fun c75 => ?_)
          · replace h := (if_pos c75).symm.trans h
            exact hZ7 x73 _ _ _ h hP hS (lv_sub hl [0, 1] rfl)
          · replace h := (if_neg c75).symm.trans h
            refine lv_ldc2 (pc := 113) (v := 31) hx hb C.2.2.2.1 lk1 dX4_digest_113 ?_
            refine lv_lload_n (pc := 116) hx hb dX4_digest_116 rfl (lv_at hl 1 rfl) ?_
            refine lv_lmul (pc := 117) hx hb dX4_digest_117 ?_
            refine lv_aload_n (pc := 118) hx hb dX4_digest_118 rfl (lv_at hl 0 rfl) ?_
            refine lv_iload_n (pc := 119) hx hb dX4_digest_119 rfl (lv_at hl 2 rfl) ?_
            obtain ⟨r76, er76, h⟩ := tl_nm h
            refine caX4_chamberBy (pc := 120) C hts hP hS er76 gX4_digest_X4_chamberBy ⟨Nat.le_of_ble_eq_true rfl, Nat.le_of_ble_eq_true rfl⟩ hl.1 (Nat.le_of_ble_eq_true rfl) dX4_digest_120 (fun H locs hP hS => ?_)
            refine lv_i2l (pc := 123) hx hb dX4_digest_123 rfl ?_
            refine lv_ladd (pc := 124) hx hb dX4_digest_124 ?_
            obtain ⟨x77, ex77, h⟩ := tl_nm h
            refine tl_tl ex77 ?_
            refine lv_lstore_n (pc := 125) (lv' := [(1, .long x77), (0, .ref (tl_ad g 34)), (3, .int x74)]) hx hb dX4_digest_125 rfl hl (by decide) rfl (fun ls hl => ?_)
            obtain ⟨x78, ex78, h⟩ := tl_nm h
            refine lv_iinc (pc := 126) (v := x78) (lv' := [(3, .int x78), (1, .long x77), (0, .ref (tl_ad g 34))]) hx hb dX4_digest_126 hl (k := 2) rfl ex78 (by decide) rfl (fun ls hl => ?_)
            refine lv_goto (pc := 129) (tgt := 108) hx hb dX4_digest_129 (by decide) ?_
            exact ih x77 x78 _ _ _ h hP hS (lv_sub hl [2, 1, 0] rfl)
      exact hL108 1000 x4 0 _ _ _ h hP hS (lv_sub hl [1, 2, 0] rfl)
    have hL33 : ∀ (n : Nat) (σ79 : tl_St) (x80 : Int64) (x81 : Int32) (H : Heap) (locs : List Loc) (ls : Array Slot), fX4_digest_L33 k5 n σ79 x80 x81 = some (ro, σo) → va_P g.1 vwCl (tl_W g σ79) H → va_S (tl_A g) s.heap H locs → lv_has ls 5 [(0, .ref (tl_ad g 34)), (1, .long x80), (3, .int x81)] → W p l e rX4_digest s m [.ref (tl_ad g 34)].toArray below meth c H locs 0 0 (MQ below (tl_Ql g ro σo) [.ref (tl_ad g 34)].toArray s 0 0 (tl_A g)) (F0 m 33 ls []) := by
      intro n
      induction n with
      | zero =>
        intro σ79 x80 x81 H locs ls h hP hS hl
        rw [fX4_digest_L33] at h
        cases h
      | succ n ih =>
        intro σ79 x80 x81 H locs ls h hP hS hl
        rw [fX4_digest_L33] at h
        refine lv_iload_n (pc := 33) hx hb dX4_digest_33 rfl (lv_at hl 2 rfl) ?_
        refine lv_aload_n (pc := 34) hx hb dX4_digest_34 rfl (lv_at hl 0 rfl) ?_
        refine tl_gM_7 (pc := 35) C hc4 hP lk4 dX4_digest_35 ?_
        refine lv_icmp_ge (pc := 38) (tgt := 106) hx hb dX4_digest_38 (by decide) (fun c82 => ?_) (fun c82 => ?_)
        · replace h := (if_pos c82).symm.trans h
          exact hZ5 σ79 x80 _ _ _ h hP hS (lv_sub hl [0, 1] rfl)
        · replace h := (if_neg c82).symm.trans h
          refine lv_iconst (pc := 41) (v := 0) hx hb dX4_digest_41 (by decide) ?_
          refine lv_istore (pc := 42) (lv' := [(4, .int 0), (0, .ref (tl_ad g 34)), (1, .long x80), (3, .int x81)]) hx hb dX4_digest_42 hl (by decide) rfl (fun ls hl => ?_)
          obtain ⟨k84, ek84, h⟩ := tl_j1 h
          have hZ84 : ∀ (x83 : Int64) (H : Heap) (locs : List Loc) (ls : Array Slot), k84 x83 = some (ro, σo) → va_P g.1 vwCl (tl_W g σ79) H → va_S (tl_A g) s.heap H locs → lv_has ls 5 [(0, .ref (tl_ad g 34)), (1, .long x83), (3, .int x81)] → W p l e rX4_digest s m [.ref (tl_ad g 34)].toArray below meth c H locs 0 0 (MQ below (tl_Ql g ro σo) [.ref (tl_ad g 34)].toArray s 0 0 (tl_A g)) (F0 m 72 ls []) := by
            intro x83 H locs ls h hP hS hl
            replace h := (ek84 x83).trans h
            refine lv_ldc2 (pc := 72) (v := 31) hx hb C.2.2.2.1 lk1 dX4_digest_72 ?_
            refine lv_lload_n (pc := 75) hx hb dX4_digest_75 rfl (lv_at hl 1 rfl) ?_
            refine lv_lmul (pc := 76) hx hb dX4_digest_76 ?_
            refine lv_aload_n (pc := 77) hx hb dX4_digest_77 rfl (lv_at hl 0 rfl) ?_
            refine lv_iload_n (pc := 78) hx hb dX4_digest_78 rfl (lv_at hl 2 rfl) ?_
            refine lv_iconst (pc := 79) (v := 0) hx hb dX4_digest_79 (by decide) ?_
            obtain ⟨r85, σ86, er85, h⟩ := tl_o2s h
            refine caX4_betterBy (pc := 80) C hts hP hS er85 gX4_digest_X4_betterBy ⟨Nat.le_of_ble_eq_true rfl, Nat.le_of_ble_eq_true rfl⟩ hl.1 (Nat.le_of_ble_eq_true rfl) dX4_digest_80 (fun H locs hP hS => ?_)
            refine lv_i2l (pc := 83) hx hb dX4_digest_83 rfl ?_
            refine lv_ladd (pc := 84) hx hb dX4_digest_84 ?_
            obtain ⟨x87, ex87, h⟩ := tl_nm h
            refine tl_tl ex87 ?_
            refine lv_lstore_n (pc := 85) (lv' := [(1, .long x87), (0, .ref (tl_ad g 34)), (3, .int x81)]) hx hb dX4_digest_85 rfl hl (by decide) rfl (fun ls hl => ?_)
            refine lv_ldc2 (pc := 86) (v := 31) hx hb C.2.2.2.1 lk1 dX4_digest_86 ?_
            refine lv_lload_n (pc := 89) hx hb dX4_digest_89 rfl (lv_at hl 0 rfl) ?_
            refine lv_lmul (pc := 90) hx hb dX4_digest_90 ?_
            refine lv_aload_n (pc := 91) hx hb dX4_digest_91 rfl (lv_at hl 1 rfl) ?_
            refine lv_iload_n (pc := 92) hx hb dX4_digest_92 rfl (lv_at hl 2 rfl) ?_
            refine lv_iconst (pc := 93) (v := 1) hx hb dX4_digest_93 (by decide) ?_
            obtain ⟨r88, σ89, er88, h⟩ := tl_o2s h
            refine caX4_betterBy (pc := 94) C hts hP hS er88 gX4_digest_X4_betterBy ⟨Nat.le_of_ble_eq_true rfl, Nat.le_of_ble_eq_true rfl⟩ hl.1 (Nat.le_of_ble_eq_true rfl) dX4_digest_94 (fun H locs hP hS => ?_)
            refine lv_i2l (pc := 97) hx hb dX4_digest_97 rfl ?_
            refine lv_ladd (pc := 98) hx hb dX4_digest_98 ?_
            obtain ⟨x90, ex90, h⟩ := tl_nm h
            refine tl_tl ex90 ?_
            refine lv_lstore_n (pc := 99) (lv' := [(1, .long x90), (0, .ref (tl_ad g 34)), (3, .int x81)]) hx hb dX4_digest_99 rfl hl (by decide) rfl (fun ls hl => ?_)
            obtain ⟨x91, ex91, h⟩ := tl_nm h
            refine lv_iinc (pc := 100) (v := x91) (lv' := [(3, .int x91), (1, .long x90), (0, .ref (tl_ad g 34))]) hx hb dX4_digest_100 hl (k := 2) rfl ex91 (by decide) rfl (fun ls hl => ?_)
            refine lv_goto (pc := 103) (tgt := 33) hx hb dX4_digest_103 (by decide) ?_
            exact ih σ89 x90 x91 _ _ _ h hP hS (lv_sub hl [2, 1, 0] rfl)
          have hL44 : ∀ (n : Nat) (x92 : Int64) (x93 : Int32) (H : Heap) (locs : List Loc) (ls : Array Slot), fX4_digest_L44 σ79 x81 k84 n x92 x93 = some (ro, σo) → va_P g.1 vwCl (tl_W g σ79) H → va_S (tl_A g) s.heap H locs → lv_has ls 5 [(0, .ref (tl_ad g 34)), (1, .long x92), (3, .int x81), (4, .int x93)] → W p l e rX4_digest s m [.ref (tl_ad g 34)].toArray below meth c H locs 0 0 (MQ below (tl_Ql g ro σo) [.ref (tl_ad g 34)].toArray s 0 0 (tl_A g)) (F0 m 44 ls []) := by
            intro n
            induction n with
            | zero =>
              intro x92 x93 H locs ls h hP hS hl
              rw [fX4_digest_L44] at h
              cases h
            | succ n ih =>
              intro x92 x93 H locs ls h hP hS hl
              rw [fX4_digest_L44] at h
              refine lv_iload (pc := 44) hx hb dX4_digest_44 (lv_at hl 3 rfl) ?_
              refine lv_bipush (pc := 46) (v := 7) hx hb dX4_digest_46 (by decide) ?_
              refine lv_icmp_ge (pc := 48) (tgt := 72) hx hb dX4_digest_48 (by decide) (fun c94 => ?_) (fun c94 => ?_)
              · replace h := (if_pos c94).symm.trans h
                exact hZ84 x92 _ _ _ h hP hS (lv_sub hl [0, 1, 2] rfl)
              · replace h := (if_neg c94).symm.trans h
                refine lv_ldc2 (pc := 51) (v := 31) hx hb C.2.2.2.1 lk1 dX4_digest_51 ?_
                refine lv_lload_n (pc := 54) hx hb dX4_digest_54 rfl (lv_at hl 1 rfl) ?_
                refine lv_lmul (pc := 55) hx hb dX4_digest_55 ?_
                refine lv_aload_n (pc := 56) hx hb dX4_digest_56 rfl (lv_at hl 0 rfl) ?_
                refine lv_iload_n (pc := 57) hx hb dX4_digest_57 rfl (lv_at hl 2 rfl) ?_
                refine lv_iload (pc := 58) hx hb dX4_digest_58 (lv_at hl 3 rfl) ?_
                obtain ⟨r95, er95, h⟩ := tl_o1s h
                refine caX4_infoBy (pc := 60) C hts hP hS er95 gX4_digest_X4_infoBy ⟨Nat.le_of_ble_eq_true rfl, Nat.le_of_ble_eq_true rfl⟩ hl.1 (Nat.le_of_ble_eq_true rfl) dX4_digest_60 (fun H locs hP hS => ?_)
                refine lv_i2l (pc := 63) hx hb dX4_digest_63 rfl ?_
                refine lv_ladd (pc := 64) hx hb dX4_digest_64 ?_
                obtain ⟨x96, ex96, h⟩ := tl_nm h
                refine tl_tl ex96 ?_
                refine lv_lstore_n (pc := 65) (lv' := [(1, .long x96), (0, .ref (tl_ad g 34)), (3, .int x81), (4, .int x93)]) hx hb dX4_digest_65 rfl hl (by decide) rfl (fun ls hl => ?_)
                obtain ⟨x97, ex97, h⟩ := tl_nm h
                refine lv_iinc (pc := 66) (v := x97) (lv' := [(4, .int x97), (1, .long x96), (0, .ref (tl_ad g 34)), (3, .int x81)]) hx hb dX4_digest_66 hl (k := 3) rfl ex97 (by decide) rfl (fun ls hl => ?_)
                refine lv_goto (pc := 69) (tgt := 44) hx hb dX4_digest_69 (by decide) ?_
                exact ih x96 x97 _ _ _ h hP hS (lv_sub hl [2, 1, 3, 0] rfl)
          exact hL44 1000 x80 0 _ _ _ h hP hS (lv_sub hl [1, 2, 3, 0] rfl)
    exact hL33 1000 σ x1 0 _ _ _ h hP hS (lv_sub hl [1, 2, 0] rfl)
  have hL6 : ∀ (n : Nat) (x98 : Int64) (x99 : Int32) (H : Heap) (locs : List Loc) (ls : Array Slot), fX4_digest_L6 σ k2 n x98 x99 = some (ro, σo) → va_P g.1 vwCl (tl_W g σ) H → va_S (tl_A g) s.heap H locs → lv_has ls 5 [(0, .ref (tl_ad g 34)), (1, .long x98), (3, .int x99)] → W p l e rX4_digest s m [.ref (tl_ad g 34)].toArray below meth c H locs 0 0 (MQ below (tl_Ql g ro σo) [.ref (tl_ad g 34)].toArray s 0 0 (tl_A g)) (F0 m 6 ls []) := by
    intro n
    induction n with
    | zero =>
      intro x98 x99 H locs ls h hP hS hl
      rw [fX4_digest_L6] at h
      cases h
    | succ n ih =>
      intro x98 x99 H locs ls h hP hS hl
      rw [fX4_digest_L6] at h
      refine lv_iload_n (pc := 6) hx hb dX4_digest_6 rfl (lv_at hl 2 rfl) ?_
      refine lv_bipush (pc := 7) (v := 8) hx hb dX4_digest_7 (by decide) ?_
      refine lv_icmp_ge (pc := 9) (tgt := 31) hx hb dX4_digest_9 (by decide) (fun c100 => ?_) (fun c100 => ?_)
      · replace h := (if_pos c100).symm.trans h
        exact hZ2 x98 _ _ _ h hP hS (lv_sub hl [0, 1] rfl)
      · replace h := (if_neg c100).symm.trans h
        refine lv_ldc2 (pc := 12) (v := 31) hx hb C.2.2.2.1 lk1 dX4_digest_12 ?_
        refine lv_lload_n (pc := 15) hx hb dX4_digest_15 rfl (lv_at hl 1 rfl) ?_
        refine lv_lmul (pc := 16) hx hb dX4_digest_16 ?_
        refine lv_aload_n (pc := 17) hx hb dX4_digest_17 rfl (lv_at hl 0 rfl) ?_
        refine lv_iload_n (pc := 18) hx hb dX4_digest_18 rfl (lv_at hl 2 rfl) ?_
        obtain ⟨r101, er101, h⟩ := tl_o1s h
        refine caX4_count (pc := 19) C hts hP hS er101 gX4_digest_X4_count ⟨Nat.le_of_ble_eq_true rfl, Nat.le_of_ble_eq_true rfl⟩ hl.1 (Nat.le_of_ble_eq_true rfl) dX4_digest_19 (fun H locs hP hS => ?_)
        refine lv_i2l (pc := 22) hx hb dX4_digest_22 rfl ?_
        refine lv_ladd (pc := 23) hx hb dX4_digest_23 ?_
        obtain ⟨x102, ex102, h⟩ := tl_nm h
        refine tl_tl ex102 ?_
        refine lv_lstore_n (pc := 24) (lv' := [(1, .long x102), (0, .ref (tl_ad g 34)), (3, .int x99)]) hx hb dX4_digest_24 rfl hl (by decide) rfl (fun ls hl => ?_)
        obtain ⟨x103, ex103, h⟩ := tl_nm h
        refine lv_iinc (pc := 25) (v := x103) (lv' := [(3, .int x103), (1, .long x102), (0, .ref (tl_ad g 34))]) hx hb dX4_digest_25 hl (k := 2) rfl ex103 (by decide) rfl (fun ls hl => ?_)
        refine lv_goto (pc := 28) (tgt := 6) hx hb dX4_digest_28 (by decide) ?_
        exact ih x102 x103 _ _ _ h hP hS (lv_sub hl [2, 1, 0] rfl)
  exact hL6 1000 17 0 _ _ _ h hP hS (lv_sub hl [2, 1, 0] rfl)
theorem caX4_digest {p : Program} {l : Launch} {e : Env} {R : Room} {s : State} {m : MethodId} {args : Array Value} {below : List Frame} {meth : Method} {c : Code} {H : Heap} {locs : List Loc} {Q : State → Prop} {cc : ByteArray} {pc : Nat} {ls : Array Slot} {rest : List Value} {g : tl_G} {σ : tl_St} {H0 : Heap} {nL : Nat} {own : String} {ret : Option FieldType} {index : Nat} (C : tl_C p s m meth c cc nL own ret g) {Ts : List Cond} (hts : ∀ w ∈ Ts, w.before args s = true) (hP : va_P g.1 vwCl (tl_W g σ) H) (hS : va_S (tl_A g) H0 H locs) {ro : Int64} {σo : tl_St} (h : fX4_digest σ = some (ro, σo)) (hG : GoodIn Ts (wsV own index RX4 yX4_digest wsX4_digest)) (hR : 5 + 1 ≤ R.frames ∧ 8 + (5 + 11) + 121 ≤ R.locals) (hls : ls.size = nL) (hrm : (rest.map fun v => v.category).sum ≤ 8) (hdg : decode cc pc = .ok (.invokevirtual index, 3)) (kk : ∀ (H1 : Heap) (locs1 : List Loc), va_P g.1 vwCl (tl_W g σo) H1 → va_S (tl_A g) H0 H1 locs1 → W p l e R s m args below meth c H1 locs1 0 0 Q (F0 m (pc + 3) ls (.long ro :: rest))) : W p l e R s m args below meth c H locs 0 0 Q (F0 m pc ls (.ref (tl_ad g 34) :: rest)) :=
  tl_gol (tl_callV C hts hP (okX4_digest l g C.2.2.2.2.2.2.2 σ ro σo h) rfl rfl rfl (n := 0) (by decide +kernel) rfl (ci := 4) rfl (tl_kM g σ) hG hR hls rfl hrm hdg) hS kk
