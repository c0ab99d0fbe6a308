abbrev rX3_leave : Room := { frames := 2, cells := 0, slots := 0, locals := 47 }
set_option maxHeartbeats 4000000 in
set_option maxRecDepth 100000 in
theorem okX3_leave (l : Launch) (g : tl_G) (hI : tl_I g) (σ : tl_St) (a1 : Int32) (ro : Int32) (σo : tl_St) (h : fX3_leave σ a1 = some (ro, σo)) : Met l yX3_leave wsX3_leave rX3_leave (va_Pc [.ref (tl_ad g 0), .int a1] (tl_Pre g σ)) (tl_Qi g ro σo) 0 0 (tl_A g) := by
  refine tl_enter (cc := cX3_leave) (maxL := 4) (ret := (some .int)) (own := RX3) hI (by decide) rfl rfl (Nat.le_of_ble_eq_true rfl) ?_
  intro p e s m below meth c C hts H locs hP hS ls hl
  have hx := C.1
  have hb := C.2.1
  have hl : lv_has ls 4 [(0, .ref (tl_ad g 0)), (1, .int a1)] := hl
  have hc0 : ∀ w ∈ u_ws RX0 TX0 2, w.before [.ref (tl_ad g 0), .int a1].toArray s = true := fun w hw => hts w (List.mem_cons_of_mem _ (List.mem_append_right _ hw))
  have hc3 : ∀ w ∈ u_ws RX3 TX3 13, w.before [.ref (tl_ad g 0), .int a1].toArray s = true := fun w hw => hts w (List.mem_cons_of_mem _ (List.mem_append_left _ (List.mem_append_right _ hw)))
  have lk0 : (Cond.fieldLink RX3 21 "ThriftLock" "queues" "[LThriftLock$Queue;").before [.ref (tl_ad g 0), .int a1].toArray s = true := hts _ (List.mem_cons_of_mem _ (List.mem_append_left _ (List.mem_append_left _ (List.mem_of_getElem? (i := 0) rfl))))
  have lk1 : (Cond.fieldLink RX3 104 "ThriftLock$Queue" "size" "I").before [.ref (tl_ad g 0), .int a1].toArray s = true := hts _ (List.mem_cons_of_mem _ (List.mem_append_left _ (List.mem_append_left _ (List.mem_of_getElem? (i := 1) rfl))))
  unfold fX3_leave at h
  refine lv_iload_n (pc := 0) hx hb dX3_leave_0 rfl (lv_at hl 1 rfl) ?_
  refine lv_if_ge (pc := 1) (tgt := 7) hx hb dX3_leave_1 (by decide) (fun c1 => ?_) (fun c1 => ?_)
  · replace h := (if_pos c1).symm.trans h
    refine lv_iconst (pc := 7) (v := 0) hx hb dX3_leave_7 (by decide) ?_
    refine lv_istore_n (pc := 8) (lv' := [(2, .int 0), (0, .ref (tl_ad g 0)), (1, .int a1)]) hx hb dX3_leave_8 rfl hl (by decide) rfl (fun ls hl => ?_)
    obtain ⟨k2, ek2, h⟩ := tl_j0 h
    have hZ2 : ∀ (H : Heap) (locs : List Loc) (ls : Array Slot), k2 = some (ro, σo) → va_P g.1 vwCl (tl_W g σ) H → va_S (tl_A g) s.heap H locs → lv_has ls 4 [] → W p l e rX3_leave s m [.ref (tl_ad g 0), .int a1].toArray below meth c H locs 0 0 (MQ below (tl_Qi g ro σo) [.ref (tl_ad g 0), .int a1].toArray s 0 0 (tl_A g)) (F0 m 56 ls []) := by
      intro H locs ls h hP hS hl
      replace h := ek2.trans h
      refine lv_bipush (pc := 56) (v := (-3)) hx hb dX3_leave_56 (by decide) ?_
      exact tl_Ripw (pc := 58) C h hP hS dX3_leave_58
    have hL9 : ∀ (n : Nat) (x3 : Int32) (H : Heap) (locs : List Loc) (ls : Array Slot), fX3_leave_L9 σ a1 k2 n x3 = some (ro, σo) → va_P g.1 vwCl (tl_W g σ) H → va_S (tl_A g) s.heap H locs → lv_has ls 4 [(0, .ref (tl_ad g 0)), (1, .int a1), (2, .int x3)] → W p l e rX3_leave s m [.ref (tl_ad g 0), .int a1].toArray below meth c H locs 0 0 (MQ below (tl_Qi g ro σo) [.ref (tl_ad g 0), .int a1].toArray s 0 0 (tl_A g)) (F0 m 9 ls []) := by
      intro n
      induction n with
      | zero =>
        intro x3 H locs ls h hP hS hl
        rw [fX3_leave_L9] at h
        cases h
      | succ n ih =>
        intro x3 H locs ls h hP hS hl
        rw [fX3_leave_L9] at h
        refine lv_iload_n (pc := 9) hx hb dX3_leave_9 rfl (lv_at hl 2 rfl) ?_
        refine lv_iconst (pc := 10) (v := 1) hx hb dX3_leave_10 (by decide) ?_
        refine lv_icmp_gt (pc := 11) (tgt := 56) hx hb dX3_leave_11 (by decide) (fun c4 => ?_) (fun c4 => ?_)
        · replace h := (if_pos c4).symm.trans h
          exact hZ2 _ _ _ h hP hS (lv_sub hl [] rfl)
        · replace h := (if_neg c4).symm.trans h
          refine lv_aload_n (pc := 14) hx hb dX3_leave_14 rfl (lv_at hl 0 rfl) ?_
          refine tl_g0_2 (pc := 15) C hc3 hP lk0 dX3_leave_15 ?_
          refine lv_iload_n (pc := 18) hx hb dX3_leave_18 rfl (lv_at hl 2 rfl) ?_
          obtain ⟨g5, h⟩ := tl_gd h
          refine tl_aldQ (pc := 19) C hP g5 dX3_leave_19 ?_
          obtain ⟨o6, eo6, h⟩ := tl_nm h
          have io6 : tl_isQ o6 := by rw [← eo6]; exact tl_qOf g5
          refine tl_tr (congrArg (tl_ad g) eo6) ?_
          refine lv_iload_n (pc := 20) hx hb dX3_leave_20 rfl (lv_at hl 1 rfl) ?_
          obtain ⟨r7, er7, h⟩ := tl_o1s h
          refine caX0_placeOf (pc := 21) C hts hP hS io6 er7 gX3_leave_X0_placeOf ⟨Nat.le_of_ble_eq_true rfl, Nat.le_of_ble_eq_true rfl⟩ hl.1 (Nat.le_of_ble_eq_true rfl) dX3_leave_21 (fun H locs hP hS => ?_)
          refine lv_istore_n (pc := 24) (lv' := [(3, .int r7), (0, .ref (tl_ad g 0)), (1, .int a1), (2, .int x3)]) hx hb dX3_leave_24 rfl hl (by decide) rfl (fun ls hl => ?_)
          refine lv_iload_n (pc := 25) hx hb dX3_leave_25 rfl (lv_at hl 0 rfl) ?_
          refine lv_iconst (pc := 26) (v := (-1)) hx hb dX3_leave_26 (by decide) ?_
          refine lv_icmp_eq (pc := 27) (tgt := 50) hx hb dX3_leave_27 (by decide) (fun c8 => ?_) (fun c8 => ?_)
          · replace h := (if_pos c8).symm.trans h
            obtain ⟨x9, ex9, h⟩ := tl_nm h
            refine lv_iinc (pc := 50) (v := x9) (lv' := [(2, .int x9), (3, .int r7), (0, .ref (tl_ad g 0)), (1, .int a1)]) hx hb dX3_leave_50 hl (k := 3) rfl ex9 (by decide) rfl (fun ls hl => ?_)
            refine lv_goto (pc := 53) (tgt := 9) hx hb dX3_leave_53 (by decide) ?_
            exact ih x9 _ _ _ h hP hS (lv_sub hl [2, 3, 0] rfl)
          · replace h := (if_neg c8).symm.trans h
            refine lv_aload_n (pc := 30) hx hb dX3_leave_30 rfl (lv_at hl 1 rfl) ?_
            refine tl_g0_2 (pc := 31) C hc3 hP lk0 dX3_leave_31 ?_
            refine lv_iload_n (pc := 34) hx hb dX3_leave_34 rfl (lv_at hl 3 rfl) ?_
            obtain ⟨g10, h⟩ := tl_gd h
            refine tl_aldQ (pc := 35) C hP g10 dX3_leave_35 ?_
            obtain ⟨o11, eo11, h⟩ := tl_nm h
            have io11 : tl_isQ o11 := by rw [← eo11]; exact tl_qOf g10
            refine tl_tr (congrArg (tl_ad g) eo11) ?_
            refine lv_iload_n (pc := 36) hx hb dX3_leave_36 rfl (lv_at hl 0 rfl) ?_
            obtain ⟨σ12, eσ12, h⟩ := tl_o1s h
            refine caX0_removeAt (pc := 37) C hts hP hS io11 eσ12 gX3_leave_X0_removeAt ⟨Nat.le_of_ble_eq_true rfl, Nat.le_of_ble_eq_true rfl⟩ hl.1 (Nat.le_of_ble_eq_true rfl) dX3_leave_37 (fun H locs hP hS => ?_)
            refine lv_aload_n (pc := 40) hx hb dX3_leave_40 rfl (lv_at hl 1 rfl) ?_
            refine tl_g0_2 (pc := 41) C hc3 hP lk0 dX3_leave_41 ?_
            refine lv_iload_n (pc := 44) hx hb dX3_leave_44 rfl (lv_at hl 3 rfl) ?_
            obtain ⟨g13, h⟩ := tl_gd h
            refine tl_aldQ (pc := 45) C hP g13 dX3_leave_45 ?_
            obtain ⟨o14, eo14, h⟩ := tl_nm h
            have io14 : tl_isQ o14 := by rw [← eo14]; exact tl_qOf g13
            refine tl_tr (congrArg (tl_ad g) eo14) ?_
            refine tl_gQ_1 (pc := 46) C hc0 hP io14 lk1 dX3_leave_46 ?_
            exact tl_Ripw (pc := 49) C h hP hS dX3_leave_49
    exact hL9 1000 0 _ _ _ h hP hS (lv_sub hl [1, 2, 0] rfl)
  · replace h := (if_neg c1).symm.trans h
    refine lv_bipush (pc := 4) (v := (-2)) hx hb dX3_leave_4 (by decide) ?_
    exact tl_Ripw (pc := 6) C h hP hS dX3_leave_6
theorem caX3_leave {p : Program} {l : Launch} {e : Env} {R : Room} {s : State} {m : MethodId} {args : Array Value} {below : List Frame} {meth : Method} {c : Code} {H : Heap} {locs : List Loc} {Q : State → Prop} {cc : ByteArray} {pc : Nat} {ls : Array Slot} {rest : List Value} {g : tl_G} {σ : tl_St} {H0 : Heap} {nL : Nat} {own : String} {ret : Option FieldType} {index : Nat} (C : tl_C p s m meth c cc nL own ret g) {Ts : List Cond} (hts : ∀ w ∈ Ts, w.before args s = true) (hP : va_P g.1 vwCl (tl_W g σ) H) (hS : va_S (tl_A g) H0 H locs) {a1 : Int32} {ro : Int32} {σo : tl_St} (h : fX3_leave σ a1 = some (ro, σo)) (hG : GoodIn Ts (wsV own index RX3 yX3_leave wsX3_leave)) (hR : 2 + 1 ≤ R.frames ∧ 8 + (4 + 11) + 47 ≤ R.locals) (hls : ls.size = nL) (hrm : (rest.map fun v => v.category).sum ≤ 8) (hdg : decode cc pc = .ok (.invokevirtual index, 3)) (kk : ∀ (H1 : Heap) (locs1 : List Loc), va_P g.1 vwCl (tl_W g σo) H1 → va_S (tl_A g) H0 H1 locs1 → W p l e R s m args below meth c H1 locs1 0 0 Q (F0 m (pc + 3) ls (.int ro :: rest))) : W p l e R s m args below meth c H locs 0 0 Q (F0 m pc ls (.int a1 :: .ref (tl_ad g 0) :: rest)) :=
  tl_goi (tl_callV C hts hP (okX3_leave l g C.2.2.2.2.2.2.2 σ a1 ro σo h) rfl rfl rfl (n := 1) (by decide +kernel) rfl (ci := 3) rfl (tl_k0 g σ) hG hR hls rfl hrm hdg) hS kk
abbrev rX3_waits : Room := { frames := 1, cells := 0, slots := 0, locals := 21 }
set_option maxHeartbeats 4000000 in
set_option maxRecDepth 100000 in
theorem okX3_waits (l : Launch) (g : tl_G) (hI : tl_I g) (σ : tl_St) (a1 : Int32) (a2 : Int32) (ro : Int32) (h : fX3_waits σ a1 a2 = some ro) : Met l yX3_waits wsX3_waits rX3_waits (va_Pc [.ref (tl_ad g 0), .int a1, .int a2] (tl_Pre g σ)) (tl_Qi g ro σ) 0 0 (tl_A g) := by
  refine tl_enter (cc := cX3_waits) (maxL := 3) (ret := (some .int)) (own := RX3) hI (by decide) rfl rfl (Nat.le_of_ble_eq_true rfl) ?_
  intro p e s m below meth c C hts H locs hP hS ls hl
  have hx := C.1
  have hb := C.2.1
  have hl : lv_has ls 3 [(0, .ref (tl_ad g 0)), (1, .int a1), (2, .int a2)] := hl
  have hc0 : ∀ w ∈ u_ws RX0 TX0 2, w.before [.ref (tl_ad g 0), .int a1, .int a2].toArray s = true := fun w hw => hts w (List.mem_cons_of_mem _ (List.mem_append_right _ hw))
  have hc3 : ∀ w ∈ u_ws RX3 TX3 13, w.before [.ref (tl_ad g 0), .int a1, .int a2].toArray s = true := fun w hw => hts w (List.mem_cons_of_mem _ (List.mem_append_left _ (List.mem_append_right _ hw)))
  have lk0 : (Cond.fieldLink RX3 21 "ThriftLock" "queues" "[LThriftLock$Queue;").before [.ref (tl_ad g 0), .int a1, .int a2].toArray s = true := hts _ (List.mem_cons_of_mem _ (List.mem_append_left _ (List.mem_append_left _ (List.mem_of_getElem? (i := 0) rfl))))
  have lk1 : (Cond.fieldLink RX3 104 "ThriftLock$Queue" "size" "I").before [.ref (tl_ad g 0), .int a1, .int a2].toArray s = true := hts _ (List.mem_cons_of_mem _ (List.mem_append_left _ (List.mem_append_left _ (List.mem_of_getElem? (i := 1) rfl))))
  unfold fX3_waits at h
  refine lv_iload_n (pc := 0) hx hb dX3_waits_0 rfl (lv_at hl 1 rfl) ?_
  obtain ⟨r1, er1, h⟩ := tl_nm h
  refine caX3_isWay (pc := 1) C hts hP hS er1 gX3_waits_X3_isWay ⟨Nat.le_of_ble_eq_true rfl, Nat.le_of_ble_eq_true rfl⟩ hl.1 (Nat.le_of_ble_eq_true rfl) dX3_waits_1 (fun H locs hP hS => ?_)
  refine lv_if_eq (pc := 4) (tgt := 18) hx hb dX3_waits_4 (by decide) (fun c2 => ?_) (fun c2 => ?_)
  · replace h := (if_pos c2).symm.trans h
    refine lv_bipush (pc := 18) (v := (-2)) hx hb dX3_waits_18 (by decide) ?_
    exact tl_Ripr (pc := 20) C h hP hS dX3_waits_20
  · replace h := (if_neg c2).symm.trans h
    refine lv_iload_n (pc := 7) hx hb dX3_waits_7 rfl (lv_at hl 2 rfl) ?_
    refine lv_iconst (pc := 8) (v := (-1)) hx hb dX3_waits_8 (by decide) ?_
    refine lv_icmp_lt (pc := 9) (tgt := 18) hx hb dX3_waits_9 (by decide) (fun c3 => ?_) (fun c3 => ?_)
    · replace h := (if_pos c3).symm.trans h
      refine lv_bipush (pc := 18) (v := (-2)) hx hb dX3_waits_18 (by decide) ?_
      exact tl_Ripr (pc := 20) C h hP hS dX3_waits_20
    · replace h := (if_neg c3).symm.trans h
      refine lv_iload_n (pc := 12) hx hb dX3_waits_12 rfl (lv_at hl 2 rfl) ?_
      refine lv_bipush (pc := 13) (v := 16) hx hb dX3_waits_13 (by decide) ?_
      refine lv_icmp_lt (pc := 15) (tgt := 21) hx hb dX3_waits_15 (by decide) (fun c4 => ?_) (fun c4 => ?_)
      · replace h := (if_pos c4).symm.trans h
        refine lv_iload_n (pc := 21) hx hb dX3_waits_21 rfl (lv_at hl 2 rfl) ?_
        refine lv_iconst (pc := 22) (v := (-1)) hx hb dX3_waits_22 (by decide) ?_
        refine lv_icmp_ne (pc := 23) (tgt := 38) hx hb dX3_waits_23 (by decide) (fun c5 => ?_) (fun c5 => ?_)
        · replace h := (if_neg c5).symm.trans h
          refine lv_aload_n (pc := 38) hx hb dX3_waits_38 rfl (lv_at hl 0 rfl) ?_
          refine tl_g0_2 (pc := 39) C hc3 hP lk0 dX3_waits_39 ?_
          refine lv_iload_n (pc := 42) hx hb dX3_waits_42 rfl (lv_at hl 1 rfl) ?_
          obtain ⟨g6, h⟩ := tl_gd h
          refine tl_aldQ (pc := 43) C hP g6 dX3_waits_43 ?_
          obtain ⟨o7, eo7, h⟩ := tl_nm h
          have io7 : tl_isQ o7 := by rw [← eo7]; exact tl_qOf g6
          refine tl_tr (congrArg (tl_ad g) eo7) ?_
          refine lv_iload_n (pc := 44) hx hb dX3_waits_44 rfl (lv_at hl 2 rfl) ?_
          obtain ⟨r8, er8, h⟩ := tl_o1s h
          refine caX0_boatAt (pc := 45) C hts hP hS io7 er8 gX3_waits_X0_boatAt ⟨Nat.le_of_ble_eq_true rfl, Nat.le_of_ble_eq_true rfl⟩ hl.1 (Nat.le_of_ble_eq_true rfl) dX3_waits_45 (fun H locs hP hS => ?_)
          exact tl_Ripr (pc := 48) C h hP hS dX3_waits_48
        · replace h := (if_pos c5).symm.trans h
          refine lv_aload_n (pc := 26) hx hb dX3_waits_26 rfl (lv_at hl 0 rfl) ?_
          refine tl_g0_2 (pc := 27) C hc3 hP lk0 dX3_waits_27 ?_
          refine lv_iload_n (pc := 30) hx hb dX3_waits_30 rfl (lv_at hl 1 rfl) ?_
          obtain ⟨g9, h⟩ := tl_gd h
          refine tl_aldQ (pc := 31) C hP g9 dX3_waits_31 ?_
          obtain ⟨o10, eo10, h⟩ := tl_nm h
          have io10 : tl_isQ o10 := by rw [← eo10]; exact tl_qOf g9
          refine tl_tr (congrArg (tl_ad g) eo10) ?_
          refine tl_gQ_1 (pc := 32) C hc0 hP io10 lk1 dX3_waits_32 ?_
          refine lv_goto (pc := 35) (tgt := 48) hx hb dX3_waits_35 (by decide) ?_
          exact tl_Ripr (pc := 48) C h hP hS dX3_waits_48
      · replace h := (if_neg c4).symm.trans h
        refine lv_bipush (pc := 18) (v := (-2)) hx hb dX3_waits_18 (by decide) ?_
        exact tl_Ripr (pc := 20) C h hP hS dX3_waits_20
theorem caX3_waits {p : Program} {l : Launch} {e : Env} {R : Room} {s : State} {m : MethodId} {args : Array Value} {below : List Frame} {meth : Method} {c : Code} {H : Heap} {locs : List Loc} {Q : State → Prop} {cc : ByteArray} {pc : Nat} {ls : Array Slot} {rest : List Value} {g : tl_G} {σ : tl_St} {H0 : Heap} {nL : Nat} {own : String} {ret : Option FieldType} {index : Nat} (C : tl_C p s m meth c cc nL own ret g) {Ts : List Cond} (hts : ∀ w ∈ Ts, w.before args s = true) (hP : va_P g.1 vwCl (tl_W g σ) H) (hS : va_S (tl_A g) H0 H locs) {a1 : Int32} {a2 : Int32} {ro : Int32} (h : fX3_waits σ a1 a2 = some ro) (hG : GoodIn Ts (wsV own index RX3 yX3_waits wsX3_waits)) (hR : 1 + 1 ≤ R.frames ∧ 8 + (3 + 11) + 21 ≤ R.locals) (hls : ls.size = nL) (hrm : (rest.map fun v => v.category).sum ≤ 8) (hdg : decode cc pc = .ok (.invokevirtual index, 3)) (kk : ∀ (H1 : Heap) (locs1 : List Loc), va_P g.1 vwCl (tl_W g σ) H1 → va_S (tl_A g) H0 H1 locs1 → W p l e R s m args below meth c H1 locs1 0 0 Q (F0 m (pc + 3) ls (.int ro :: rest))) : W p l e R s m args below meth c H locs 0 0 Q (F0 m pc ls (.int a2 :: .int a1 :: .ref (tl_ad g 0) :: rest)) :=
  tl_goi (tl_callV C hts hP (okX3_waits l g C.2.2.2.2.2.2.2 σ a1 a2 ro h) rfl rfl rfl (n := 2) (by decide +kernel) rfl (ci := 3) rfl (tl_k0 g σ) hG hR hls rfl hrm hdg) hS kk
abbrev rX3_rule : Room := { frames := 0, cells := 0, slots := 0, locals := 0 }
set_option maxHeartbeats 4000000 in
set_option maxRecDepth 100000 in
theorem okX3_rule (l : Launch) (g : tl_G) (hI : tl_I g) (σ : tl_St) (a1 : Int32) (ro : Int32) (σo : tl_St) (h : fX3_rule σ a1 = (ro, σo)) : Met l yX3_rule wsX3_rule rX3_rule (va_Pc [.ref (tl_ad g 0), .int a1] (tl_Pre g σ)) (tl_Qi g ro σo) 0 0 (tl_A g) := by
  refine tl_enter (cc := cX3_rule) (maxL := 3) (ret := (some .int)) (own := RX3) hI (by decide) rfl rfl (Nat.le_of_ble_eq_true rfl) ?_
  intro p e s m below meth c C hts H locs hP hS ls hl
  have hx := C.1
  have hb := C.2.1
  have hl : lv_has ls 3 [(0, .ref (tl_ad g 0)), (1, .int a1)] := hl
  have hc3 : ∀ w ∈ u_ws RX3 TX3 13, w.before [.ref (tl_ad g 0), .int a1].toArray s = true := fun w hw => hts w (List.mem_cons_of_mem _ (List.mem_append_right _ hw))
  have lk0 : (Cond.fieldLink RX3 121 "ThriftLock" "ruleNow" "I").before [.ref (tl_ad g 0), .int a1].toArray s = true := hts _ (List.mem_cons_of_mem _ (List.mem_append_left _ (List.mem_of_getElem? (i := 0) rfl)))
  unfold fX3_rule at h
  refine lv_iload_n (pc := 0) hx hb dX3_rule_0 rfl (lv_at hl 1 rfl) ?_
  obtain ⟨k1, ek1, h⟩ := tl_j0 h
  have hJ1 : ∀ (H : Heap) (locs : List Loc) (ls : Array Slot), k1 = (ro, σo) → va_P g.1 vwCl (tl_W g σ) H → va_S (tl_A g) s.heap H locs → lv_has ls 3 [(0, .ref (tl_ad g 0)), (1, .int a1)] → W p l e rX3_rule s m [.ref (tl_ad g 0), .int a1].toArray below meth c H locs 0 0 (MQ below (tl_Qi g ro σo) [.ref (tl_ad g 0), .int a1].toArray s 0 0 (tl_A g)) (F0 m 12 ls []) := by
    intro H locs ls h hP hS hl
    replace h := ek1.trans h
    refine lv_aload_n (pc := 12) hx hb dX3_rule_12 rfl (lv_at hl 0 rfl) ?_
    refine tl_g0_11 (pc := 13) C hc3 hP lk0 dX3_rule_13 ?_
    obtain ⟨x2, ex2, h⟩ := tl_nm h
    refine tl_ti ex2 ?_
    refine lv_istore_n (pc := 16) (lv' := [(2, .int x2), (0, .ref (tl_ad g 0)), (1, .int a1)]) hx hb dX3_rule_16 rfl hl (by decide) rfl (fun ls hl => ?_)
    refine lv_aload_n (pc := 17) hx hb dX3_rule_17 rfl (lv_at hl 1 rfl) ?_
    refine lv_iload_n (pc := 18) hx hb dX3_rule_18 rfl (lv_at hl 2 rfl) ?_
    obtain ⟨σ3, eσ3, h⟩ := tl_nm h
    refine tl_s0_11 (pc := 19) C hc3 hP hS eσ3 lk0 dX3_rule_19 (fun H locs hP hS => ?_)
    refine lv_iload_n (pc := 22) hx hb dX3_rule_22 rfl (lv_at hl 0 rfl) ?_
    exact tl_Ritw (pc := 23) C h hP hS dX3_rule_23
  refine lv_if_eq (pc := 1) (tgt := 12) hx hb dX3_rule_1 (by decide) (fun c4 => ?_) (fun c4 => ?_)
  · replace h := (if_pos c4).symm.trans h
    exact hJ1 _ _ _ h hP hS (lv_sub hl [0, 1] rfl)
  · replace h := (if_neg c4).symm.trans h
    refine lv_iload_n (pc := 4) hx hb dX3_rule_4 rfl (lv_at hl 1 rfl) ?_
    refine lv_iconst (pc := 5) (v := 1) hx hb dX3_rule_5 (by decide) ?_
    refine lv_icmp_eq (pc := 6) (tgt := 12) hx hb dX3_rule_6 (by decide) (fun c5 => ?_) (fun c5 => ?_)
    · replace h := (if_pos c5).symm.trans h
      exact hJ1 _ _ _ h hP hS (lv_sub hl [0, 1] rfl)
    · replace h := (if_neg c5).symm.trans h
      refine lv_bipush (pc := 9) (v := (-2)) hx hb dX3_rule_9 (by decide) ?_
      exact tl_Ritw (pc := 11) C h hP hS dX3_rule_11
theorem caX3_rule {p : Program} {l : Launch} {e : Env} {R : Room} {s : State} {m : MethodId} {args : Array Value} {below : List Frame} {meth : Method} {c : Code} {H : Heap} {locs : List Loc} {Q : State → Prop} {cc : ByteArray} {pc : Nat} {ls : Array Slot} {rest : List Value} {g : tl_G} {σ : tl_St} {H0 : Heap} {nL : Nat} {own : String} {ret : Option FieldType} {index : Nat} (C : tl_C p s m meth c cc nL own ret g) {Ts : List Cond} (hts : ∀ w ∈ Ts, w.before args s = true) (hP : va_P g.1 vwCl (tl_W g σ) H) (hS : va_S (tl_A g) H0 H locs) {a1 : Int32} {ro : Int32} {σo : tl_St} (h : fX3_rule σ a1 = (ro, σo)) (hG : GoodIn Ts (wsV own index RX3 yX3_rule wsX3_rule)) (hR : 0 + 1 ≤ R.frames ∧ 8 + (3 + 11) + 0 ≤ R.locals) (hls : ls.size = nL) (hrm : (rest.map fun v => v.category).sum ≤ 8) (hdg : decode cc pc = .ok (.invokevirtual index, 3)) (kk : ∀ (H1 : Heap) (locs1 : List Loc), va_P g.1 vwCl (tl_W g σo) H1 → va_S (tl_A g) H0 H1 locs1 → W p l e R s m args below meth c H1 locs1 0 0 Q (F0 m (pc + 3) ls (.int ro :: rest))) : W p l e R s m args below meth c H locs 0 0 Q (F0 m pc ls (.int a1 :: .ref (tl_ad g 0) :: rest)) :=
  tl_goi (tl_callV C hts hP (okX3_rule l g C.2.2.2.2.2.2.2 σ a1 ro σo h) rfl rfl rfl (n := 1) (by decide +kernel) rfl (ci := 3) rfl (tl_k0 g σ) hG hR hls rfl hrm hdg) hS kk
abbrev rX3_wayAtChamber : Room := { frames := 0, cells := 0, slots := 0, locals := 0 }
set_option maxHeartbeats 4000000 in
set_option maxRecDepth 100000 in
theorem okX3_wayAtChamber (l : Launch) (g : tl_G) (hI : tl_I g) (σ : tl_St) (ro : Int32) (h : fX3_wayAtChamber σ = ro) : Met l yX3_wayAtChamber wsX3_wayAtChamber rX3_wayAtChamber (va_Pc [.ref (tl_ad g 0)] (tl_Pre g σ)) (tl_Qi g ro σ) 0 0 (tl_A g) := by
  refine tl_enter (cc := cX3_wayAtChamber) (maxL := 1) (ret := (some .int)) (own := RX3) hI (by decide) rfl rfl (Nat.le_of_ble_eq_true rfl) ?_
  intro p e s m below meth c C hts H locs hP hS ls hl
  have hx := C.1
  have hb := C.2.1
  have hl : lv_has ls 1 [(0, .ref (tl_ad g 0))] := hl
  have hc2 : ∀ w ∈ u_ws RX2 TX2 14, w.before [.ref (tl_ad g 0)].toArray s = true := fun w hw => hts w (List.mem_cons_of_mem _ (List.mem_append_right _ hw))
  have hc3 : ∀ w ∈ u_ws RX3 TX3 13, w.before [.ref (tl_ad g 0)].toArray s = true := fun w hw => hts w (List.mem_cons_of_mem _ (List.mem_append_left _ (List.mem_append_right _ hw)))
  have lk0 : (Cond.fieldLink RX3 10 "ThriftLock" "water" "LThriftLock$Water;").before [.ref (tl_ad g 0)].toArray s = true := hts _ (List.mem_cons_of_mem _ (List.mem_append_left _ (List.mem_append_left _ (List.mem_of_getElem? (i := 0) rfl))))
  have lk1 : (Cond.fieldLink RX3 37 "ThriftLock$Water" "inChamber" "I").before [.ref (tl_ad g 0)].toArray s = true := hts _ (List.mem_cons_of_mem _ (List.mem_append_left _ (List.mem_append_left _ (List.mem_of_getElem? (i := 1) rfl))))
  unfold fX3_wayAtChamber at h
  refine lv_aload_n (pc := 0) hx hb dX3_wayAtChamber_0 rfl (lv_at hl 0 rfl) ?_
  refine tl_g0_0 (pc := 1) C hc3 hP lk0 dX3_wayAtChamber_1 ?_
  refine tl_gW_1 (pc := 4) C hc2 hP tl_W1 lk1 dX3_wayAtChamber_4 ?_
  refine lv_if_ne (pc := 7) (tgt := 14) hx hb dX3_wayAtChamber_7 (by decide) (fun c1 => ?_) (fun c1 => ?_)
  · replace h := (if_neg c1).symm.trans h
    refine lv_iconst (pc := 14) (v := 0) hx hb dX3_wayAtChamber_14 (by decide) ?_
    exact tl_Ritr (pc := 15) C h hP hS dX3_wayAtChamber_15
  · replace h := (if_pos c1).symm.trans h
    refine lv_iconst (pc := 10) (v := 1) hx hb dX3_wayAtChamber_10 (by decide) ?_
    refine lv_goto (pc := 11) (tgt := 15) hx hb dX3_wayAtChamber_11 (by decide) ?_
    exact tl_Ritr (pc := 15) C h hP hS dX3_wayAtChamber_15
theorem caX3_wayAtChamber {p : Program} {l : Launch} {e : Env} {R : Room} {s : State} {m : MethodId} {args : Array Value} {below : List Frame} {meth : Method} {c : Code} {H : Heap} {locs : List Loc} {Q : State → Prop} {cc : ByteArray} {pc : Nat} {ls : Array Slot} {rest : List Value} {g : tl_G} {σ : tl_St} {H0 : Heap} {nL : Nat} {own : String} {ret : Option FieldType} {index : Nat} (C : tl_C p s m meth c cc nL own ret g) {Ts : List Cond} (hts : ∀ w ∈ Ts, w.before args s = true) (hP : va_P g.1 vwCl (tl_W g σ) H) (hS : va_S (tl_A g) H0 H locs) {ro : Int32} (h : fX3_wayAtChamber σ = ro) (hG : GoodIn Ts (wsV own index RX3 yX3_wayAtChamber wsX3_wayAtChamber)) (hR : 0 + 1 ≤ R.frames ∧ 8 + (1 + 11) + 0 ≤ R.locals) (hls : ls.size = nL) (hrm : (rest.map fun v => v.category).sum ≤ 8) (hdg : decode cc pc = .ok (.invokevirtual index, 3)) (kk : ∀ (H1 : Heap) (locs1 : List Loc), va_P g.1 vwCl (tl_W g σ) H1 → va_S (tl_A g) H0 H1 locs1 → W p l e R s m args below meth c H1 locs1 0 0 Q (F0 m (pc + 3) ls (.int ro :: rest))) : W p l e R s m args below meth c H locs 0 0 Q (F0 m pc ls (.ref (tl_ad g 0) :: rest)) :=
  tl_goi (tl_callV C hts hP (okX3_wayAtChamber l g C.2.2.2.2.2.2.2 σ ro h) rfl rfl rfl (n := 0) (by decide +kernel) rfl (ci := 3) rfl (tl_k0 g σ) hG hR hls rfl hrm hdg) hS kk
abbrev rX3_wayServedNext : Room := { frames := 1, cells := 0, slots := 0, locals := 21 }
set_option maxHeartbeats 4000000 in
set_option maxRecDepth 100000 in
theorem okX3_wayServedNext (l : Launch) (g : tl_G) (hI : tl_I g) (σ : tl_St) (ro : Int32) (h : fX3_wayServedNext σ = some ro) : Met l yX3_wayServedNext wsX3_wayServedNext rX3_wayServedNext (va_Pc [.ref (tl_ad g 0)] (tl_Pre g σ)) (tl_Qi g ro σ) 0 0 (tl_A g) := by
  refine tl_enter (cc := cX3_wayServedNext) (maxL := 3) (ret := (some .int)) (own := RX3) hI (by decide) rfl rfl (Nat.le_of_ble_eq_true rfl) ?_
  intro p e s m below meth c C hts H locs hP hS ls hl
  have hx := C.1
  have hb := C.2.1
  have hl : lv_has ls 3 [(0, .ref (tl_ad g 0))] := hl
  have hc3 : ∀ w ∈ u_ws RX3 TX3 13, w.before [.ref (tl_ad g 0)].toArray s = true := fun w hw => hts w (List.mem_cons_of_mem _ (List.mem_append_left _ (List.mem_append_left _ (List.mem_append_right _ hw))))
  have lk0 : (Cond.fieldLink RX3 21 "ThriftLock" "queues" "[LThriftLock$Queue;").before [.ref (tl_ad g 0)].toArray s = true := hts _ (List.mem_cons_of_mem _ (List.mem_append_left _ (List.mem_append_left _ (List.mem_append_left _ (List.mem_of_getElem? (i := 0) rfl)))))
  have lk1 : (Cond.fieldLink RX3 121 "ThriftLock" "ruleNow" "I").before [.ref (tl_ad g 0)].toArray s = true := hts _ (List.mem_cons_of_mem _ (List.mem_append_left _ (List.mem_append_left _ (List.mem_append_left _ (List.mem_of_getElem? (i := 1) rfl)))))
  unfold fX3_wayServedNext at h
  refine lv_aload_n (pc := 0) hx hb dX3_wayServedNext_0 rfl (lv_at hl 0 rfl) ?_
  refine tl_g0_2 (pc := 1) C hc3 hP lk0 dX3_wayServedNext_1 ?_
  refine lv_iconst (pc := 4) (v := 0) hx hb dX3_wayServedNext_4 (by decide) ?_
  refine tl_aldQ (pc := 5) C hP (i := 0) (by decide) dX3_wayServedNext_5 ?_
  refine tl_tr (a := tl_ad g (20 + 2 * (0 : Int32).toNatClampNeg)) (b := tl_ad g 20) rfl ?_
  refine lv_iconst (pc := 6) (v := 0) hx hb dX3_wayServedNext_6 (by decide) ?_
  obtain ⟨r1, er1, h⟩ := tl_o1s h
  refine caX0_boatAt (pc := 7) C hts hP hS (Or.inl rfl) er1 gX3_wayServedNext_X0_boatAt ⟨Nat.le_of_ble_eq_true rfl, Nat.le_of_ble_eq_true rfl⟩ hl.1 (Nat.le_of_ble_eq_true rfl) dX3_wayServedNext_7 (fun H locs hP hS => ?_)
  refine lv_istore_n (pc := 10) (lv' := [(1, .int r1), (0, .ref (tl_ad g 0))]) hx hb dX3_wayServedNext_10 rfl hl (by decide) rfl (fun ls hl => ?_)
  refine lv_aload_n (pc := 11) hx hb dX3_wayServedNext_11 rfl (lv_at hl 1 rfl) ?_
  refine tl_g0_2 (pc := 12) C hc3 hP lk0 dX3_wayServedNext_12 ?_
  refine lv_iconst (pc := 15) (v := 1) hx hb dX3_wayServedNext_15 (by decide) ?_
  refine tl_aldQ (pc := 16) C hP (i := 1) (by decide) dX3_wayServedNext_16 ?_
  refine tl_tr (a := tl_ad g (20 + 2 * (1 : Int32).toNatClampNeg)) (b := tl_ad g 22) rfl ?_
  refine lv_iconst (pc := 17) (v := 0) hx hb dX3_wayServedNext_17 (by decide) ?_
  obtain ⟨r2, er2, h⟩ := tl_o1s h
  refine caX0_boatAt (pc := 18) C hts hP hS (Or.inr rfl) er2 gX3_wayServedNext_X0_boatAt ⟨Nat.le_of_ble_eq_true rfl, Nat.le_of_ble_eq_true rfl⟩ hl.1 (Nat.le_of_ble_eq_true rfl) dX3_wayServedNext_18 (fun H locs hP hS => ?_)
  refine lv_istore_n (pc := 21) (lv' := [(2, .int r2), (1, .int r1), (0, .ref (tl_ad g 0))]) hx hb dX3_wayServedNext_21 rfl hl (by decide) rfl (fun ls hl => ?_)
  refine lv_iload_n (pc := 22) hx hb dX3_wayServedNext_22 rfl (lv_at hl 1 rfl) ?_
  refine lv_iconst (pc := 23) (v := (-1)) hx hb dX3_wayServedNext_23 (by decide) ?_
  refine lv_icmp_ne (pc := 24) (tgt := 38) hx hb dX3_wayServedNext_24 (by decide) (fun c3 => ?_) (fun c3 => ?_)
  · replace h := (if_neg c3).symm.trans h
    refine lv_iload_n (pc := 38) hx hb dX3_wayServedNext_38 rfl (lv_at hl 0 rfl) ?_
    refine lv_iconst (pc := 39) (v := (-1)) hx hb dX3_wayServedNext_39 (by decide) ?_
    refine lv_icmp_ne (pc := 40) (tgt := 45) hx hb dX3_wayServedNext_40 (by decide) (fun c4 => ?_) (fun c4 => ?_)
    · replace h := (if_neg c4).symm.trans h
      refine lv_aload_n (pc := 45) hx hb dX3_wayServedNext_45 rfl (lv_at hl 2 rfl) ?_
      refine tl_g0_11 (pc := 46) C hc3 hP lk1 dX3_wayServedNext_46 ?_
      refine lv_iconst (pc := 49) (v := 1) hx hb dX3_wayServedNext_49 (by decide) ?_
      refine lv_icmp_ne (pc := 50) (tgt := 58) hx hb dX3_wayServedNext_50 (by decide) (fun c5 => ?_) (fun c5 => ?_)
      · replace h := (if_neg c5).symm.trans h
        refine lv_iload_n (pc := 58) hx hb dX3_wayServedNext_58 rfl (lv_at hl 1 rfl) ?_
        refine lv_iload_n (pc := 59) hx hb dX3_wayServedNext_59 rfl (lv_at hl 0 rfl) ?_
        refine lv_icmp_ge (pc := 60) (tgt := 67) hx hb dX3_wayServedNext_60 (by decide) (fun c6 => ?_) (fun c6 => ?_)
        · replace h := (if_pos c6).symm.trans h
          refine lv_iconst (pc := 67) (v := 1) hx hb dX3_wayServedNext_67 (by decide) ?_
          exact tl_Ripr (pc := 68) C h hP hS dX3_wayServedNext_68
        · replace h := (if_neg c6).symm.trans h
          refine lv_iconst (pc := 63) (v := 0) hx hb dX3_wayServedNext_63 (by decide) ?_
          refine lv_goto (pc := 64) (tgt := 68) hx hb dX3_wayServedNext_64 (by decide) ?_
          exact tl_Ripr (pc := 68) C h hP hS dX3_wayServedNext_68
      · replace h := (if_pos c5).symm.trans h
        refine lv_aload_n (pc := 53) hx hb dX3_wayServedNext_53 rfl (lv_at hl 2 rfl) ?_
        obtain ⟨r7, er7, h⟩ := tl_nm h
        refine caX3_wayAtChamber (pc := 54) C hts hP hS er7 gX3_wayServedNext_X3_wayAtChamber ⟨Nat.le_of_ble_eq_true rfl, Nat.le_of_ble_eq_true rfl⟩ hl.1 (Nat.le_of_ble_eq_true rfl) dX3_wayServedNext_54 (fun H locs hP hS => ?_)
        exact tl_Ripr (pc := 57) C h hP hS dX3_wayServedNext_57
    · replace h := (if_pos c4).symm.trans h
      refine lv_iconst (pc := 43) (v := 0) hx hb dX3_wayServedNext_43 (by decide) ?_
      exact tl_Ripr (pc := 44) C h hP hS dX3_wayServedNext_44
  · replace h := (if_pos c3).symm.trans h
    refine lv_iload_n (pc := 27) hx hb dX3_wayServedNext_27 rfl (lv_at hl 0 rfl) ?_
    refine lv_iconst (pc := 28) (v := (-1)) hx hb dX3_wayServedNext_28 (by decide) ?_
    refine lv_icmp_ne (pc := 29) (tgt := 36) hx hb dX3_wayServedNext_29 (by decide) (fun c8 => ?_) (fun c8 => ?_)
    · replace h := (if_neg c8).symm.trans h
      refine lv_iconst (pc := 36) (v := 1) hx hb dX3_wayServedNext_36 (by decide) ?_
      exact tl_Ripr (pc := 37) C h hP hS dX3_wayServedNext_37
    · replace h := (if_pos c8).symm.trans h
      refine lv_iconst (pc := 32) (v := (-1)) hx hb dX3_wayServedNext_32 (by decide) ?_
      refine lv_goto (pc := 33) (tgt := 37) hx hb dX3_wayServedNext_33 (by decide) ?_
      exact tl_Ripr (pc := 37) C h hP hS dX3_wayServedNext_37
theorem caX3_wayServedNext {p : Program} {l : Launch} {e : Env} {R : Room} {s : State} {m : MethodId} {args : Array Value} {below : List Frame} {meth : Method} {c : Code} {H : Heap} {locs : List Loc} {Q : State → Prop} {cc : ByteArray} {pc : Nat} {ls : Array Slot} {rest : List Value} {g : tl_G} {σ : tl_St} {H0 : Heap} {nL : Nat} {own : String} {ret : Option FieldType} {index : Nat} (C : tl_C p s m meth c cc nL own ret g) {Ts : List Cond} (hts : ∀ w ∈ Ts, w.before args s = true) (hP : va_P g.1 vwCl (tl_W g σ) H) (hS : va_S (tl_A g) H0 H locs) {ro : Int32} (h : fX3_wayServedNext σ = some ro) (hG : GoodIn Ts (wsV own index RX3 yX3_wayServedNext wsX3_wayServedNext)) (hR : 1 + 1 ≤ R.frames ∧ 8 + (3 + 11) + 21 ≤ R.locals) (hls : ls.size = nL) (hrm : (rest.map fun v => v.category).sum ≤ 8) (hdg : decode cc pc = .ok (.invokevirtual index, 3)) (kk : ∀ (H1 : Heap) (locs1 : List Loc), va_P g.1 vwCl (tl_W g σ) H1 → va_S (tl_A g) H0 H1 locs1 → W p l e R s m args below meth c H1 locs1 0 0 Q (F0 m (pc + 3) ls (.int ro :: rest))) : W p l e R s m args below meth c H locs 0 0 Q (F0 m pc ls (.ref (tl_ad g 0) :: rest)) :=
  tl_goi (tl_callV C hts hP (okX3_wayServedNext l g C.2.2.2.2.2.2.2 σ ro h) rfl rfl rfl (n := 0) (by decide +kernel) rfl (ci := 3) rfl (tl_k0 g σ) hG hR hls rfl hrm hdg) hS kk
abbrev rX3_turnsToServe : Room := { frames := 1, cells := 0, slots := 0, locals := 20 }
set_option maxHeartbeats 4000000 in
set_option maxRecDepth 100000 in
theorem okX3_turnsToServe (l : Launch) (g : tl_G) (hI : tl_I g) (σ : tl_St) (a1 : Int32) (ro : Int32) (h : fX3_turnsToServe σ a1 = ro) : Met l yX3_turnsToServe wsX3_turnsToServe rX3_turnsToServe (va_Pc [.ref (tl_ad g 0), .int a1] (tl_Pre g σ)) (tl_Qi g ro σ) 0 0 (tl_A g) := by
  refine tl_enter (cc := cX3_turnsToServe) (maxL := 2) (ret := (some .int)) (own := RX3) hI (by decide) rfl rfl (Nat.le_of_ble_eq_true rfl) ?_
  intro p e s m below meth c C hts H locs hP hS ls hl
  have hx := C.1
  have hb := C.2.1
  have hl : lv_has ls 2 [(0, .ref (tl_ad g 0)), (1, .int a1)] := hl
  unfold fX3_turnsToServe at h
  refine lv_iload_n (pc := 0) hx hb dX3_turnsToServe_0 rfl (lv_at hl 1 rfl) ?_
  refine lv_aload_n (pc := 1) hx hb dX3_turnsToServe_1 rfl (lv_at hl 0 rfl) ?_
  obtain ⟨r1, er1, h⟩ := tl_nm h
  refine caX3_wayAtChamber (pc := 2) C hts hP hS er1 gX3_turnsToServe_X3_wayAtChamber ⟨Nat.le_of_ble_eq_true rfl, Nat.le_of_ble_eq_true rfl⟩ hl.1 (Nat.le_of_ble_eq_true rfl) dX3_turnsToServe_2 (fun H locs hP hS => ?_)
  refine lv_icmp_ne (pc := 5) (tgt := 12) hx hb dX3_turnsToServe_5 (by decide) (fun c2 => ?_) (fun c2 => ?_)
  · replace h := (if_neg c2).symm.trans h
    refine lv_iconst (pc := 12) (v := 2) hx hb dX3_turnsToServe_12 (by decide) ?_
    exact tl_Ritr (pc := 13) C h hP hS dX3_turnsToServe_13
  · replace h := (if_pos c2).symm.trans h
    refine lv_iconst (pc := 8) (v := 1) hx hb dX3_turnsToServe_8 (by decide) ?_
    refine lv_goto (pc := 9) (tgt := 13) hx hb dX3_turnsToServe_9 (by decide) ?_
    exact tl_Ritr (pc := 13) C h hP hS dX3_turnsToServe_13
theorem caX3_turnsToServe {p : Program} {l : Launch} {e : Env} {R : Room} {s : State} {m : MethodId} {args : Array Value} {below : List Frame} {meth : Method} {c : Code} {H : Heap} {locs : List Loc} {Q : State → Prop} {cc : ByteArray} {pc : Nat} {ls : Array Slot} {rest : List Value} {g : tl_G} {σ : tl_St} {H0 : Heap} {nL : Nat} {own : String} {ret : Option FieldType} {index : Nat} (C : tl_C p s m meth c cc nL own ret g) {Ts : List Cond} (hts : ∀ w ∈ Ts, w.before args s = true) (hP : va_P g.1 vwCl (tl_W g σ) H) (hS : va_S (tl_A g) H0 H locs) {a1 : Int32} {ro : Int32} (h : fX3_turnsToServe σ a1 = ro) (hG : GoodIn Ts (wsV own index RX3 yX3_turnsToServe wsX3_turnsToServe)) (hR : 1 + 1 ≤ R.frames ∧ 8 + (2 + 11) + 20 ≤ R.locals) (hls : ls.size = nL) (hrm : (rest.map fun v => v.category).sum ≤ 8) (hdg : decode cc pc = .ok (.invokevirtual index, 3)) (kk : ∀ (H1 : Heap) (locs1 : List Loc), va_P g.1 vwCl (tl_W g σ) H1 → va_S (tl_A g) H0 H1 locs1 → W p l e R s m args below meth c H1 locs1 0 0 Q (F0 m (pc + 3) ls (.int ro :: rest))) : W p l e R s m args below meth c H locs 0 0 Q (F0 m pc ls (.int a1 :: .ref (tl_ad g 0) :: rest)) :=
  tl_goi (tl_callV C hts hP (okX3_turnsToServe l g C.2.2.2.2.2.2.2 σ a1 ro h) rfl rfl rfl (n := 1) (by decide +kernel) rfl (ci := 3) rfl (tl_k0 g σ) hG hR hls rfl hrm hdg) hS kk
abbrev rX3_enterTurn : Room := { frames := 0, cells := 0, slots := 0, locals := 0 }
set_option maxHeartbeats 4000000 in
set_option maxRecDepth 100000 in
theorem okX3_enterTurn (l : Launch) (g : tl_G) (hI : tl_I g) (σ : tl_St) (a1 : Int32) (a2 : Int32) (σo : tl_St) (h : fX3_enterTurn σ a1 a2 = some σo) : Met l yX3_enterTurn wsX3_enterTurn rX3_enterTurn (va_Pc [.ref (tl_ad g 0), .int a1, .int a2] (tl_Pre g σ)) (tl_Qv g σo) 0 0 (tl_A g) := by
  refine tl_enter (cc := cX3_enterTurn) (maxL := 5) (ret := none) (own := RX3) hI (by decide) rfl rfl (Nat.le_of_ble_eq_true rfl) ?_
  intro p e s m below meth c C hts H locs hP hS ls hl
  have hx := C.1
  have hb := C.2.1
  have hl : lv_has ls 5 [(0, .ref (tl_ad g 0)), (1, .int a1), (2, .int a2)] := hl
  have hc2 : ∀ w ∈ u_ws RX2 TX2 14, w.before [.ref (tl_ad g 0), .int a1, .int a2].toArray s = true := fun w hw => hts w (List.mem_cons_of_mem _ (List.mem_append_right _ hw))
  have hc3 : ∀ w ∈ u_ws RX3 TX3 13, w.before [.ref (tl_ad g 0), .int a1, .int a2].toArray s = true := fun w hw => hts w (List.mem_cons_of_mem _ (List.mem_append_left _ (List.mem_append_right _ hw)))
  have lk0 : (Cond.fieldLink RX3 131 "ThriftLock" "turnsKept" "I").before [.ref (tl_ad g 0), .int a1, .int a2].toArray s = true := hts _ (List.mem_cons_of_mem _ (List.mem_append_left _ (List.mem_append_left _ (List.mem_of_getElem? (i := 0) rfl))))
  have lk1 : (Cond.fieldLink RX3 31 "ThriftLock" "rows" "[I").before [.ref (tl_ad g 0), .int a1, .int a2].toArray s = true := hts _ (List.mem_cons_of_mem _ (List.mem_append_left _ (List.mem_append_left _ (List.mem_of_getElem? (i := 1) rfl))))
  have lk2 : (Cond.fieldLink RX3 10 "ThriftLock" "water" "LThriftLock$Water;").before [.ref (tl_ad g 0), .int a1, .int a2].toArray s = true := hts _ (List.mem_cons_of_mem _ (List.mem_append_left _ (List.mem_append_left _ (List.mem_of_getElem? (i := 2) rfl))))
  have lk3 : (Cond.fieldLink RX3 41 "ThriftLock$Water" "fullAt" "I").before [.ref (tl_ad g 0), .int a1, .int a2].toArray s = true := hts _ (List.mem_cons_of_mem _ (List.mem_append_left _ (List.mem_append_left _ (List.mem_of_getElem? (i := 3) rfl))))
  have lk4 : (Cond.fieldLink RX3 140 "ThriftLock$Water" "outside" "I").before [.ref (tl_ad g 0), .int a1, .int a2].toArray s = true := hts _ (List.mem_cons_of_mem _ (List.mem_append_left _ (List.mem_append_left _ (List.mem_of_getElem? (i := 4) rfl))))
  have lk5 : (Cond.fieldLink RX3 161 "ThriftLock$Water" "leaked" "I").before [.ref (tl_ad g 0), .int a1, .int a2].toArray s = true := hts _ (List.mem_cons_of_mem _ (List.mem_append_left _ (List.mem_append_left _ (List.mem_of_getElem? (i := 5) rfl))))
  have lk6 : (Cond.fieldLink RX3 168 "ThriftLock$Water" "moved" "[I").before [.ref (tl_ad g 0), .int a1, .int a2].toArray s = true := hts _ (List.mem_cons_of_mem _ (List.mem_append_left _ (List.mem_append_left _ (List.mem_of_getElem? (i := 6) rfl))))
  unfold fX3_enterTurn at h
  refine lv_aload_n (pc := 0) hx hb dX3_enterTurn_0 rfl (lv_at hl 0 rfl) ?_
  refine tl_g0_5 (pc := 1) C hc3 hP lk0 dX3_enterTurn_1 ?_
  refine lv_bipush (pc := 4) (v := 9) hx hb dX3_enterTurn_4 (by decide) ?_
  refine lv_imul (pc := 6) hx hb dX3_enterTurn_6 ?_
  obtain ⟨x1, ex1, h⟩ := tl_nm h
  refine tl_ti ex1 ?_
  refine lv_istore_n (pc := 7) (lv' := [(3, .int x1), (0, .ref (tl_ad g 0)), (1, .int a1), (2, .int a2)]) hx hb dX3_enterTurn_7 rfl hl (by decide) rfl (fun ls hl => ?_)
  refine lv_aload_n (pc := 8) hx hb dX3_enterTurn_8 rfl (lv_at hl 1 rfl) ?_
  refine tl_g0_4 (pc := 9) C hc3 hP lk1 dX3_enterTurn_9 ?_
  refine lv_iload_n (pc := 12) hx hb dX3_enterTurn_12 rfl (lv_at hl 0 rfl) ?_
  refine lv_iload_n (pc := 13) hx hb dX3_enterTurn_13 rfl (lv_at hl 2 rfl) ?_
  obtain ⟨g2, h⟩ := tl_gd h
  obtain ⟨σ3, eσ3, h⟩ := tl_nm h
  refine tl_ast (pc := 14) C hP hS (tl_a33 g) g2 eσ3 dX3_enterTurn_14 (fun H locs hP hS => ?_)
  refine lv_aload_n (pc := 15) hx hb dX3_enterTurn_15 rfl (lv_at hl 1 rfl) ?_
  refine tl_g0_4 (pc := 16) C hc3 hP lk1 dX3_enterTurn_16 ?_
  refine lv_iload_n (pc := 19) hx hb dX3_enterTurn_19 rfl (lv_at hl 0 rfl) ?_
  refine lv_iconst (pc := 20) (v := 1) hx hb dX3_enterTurn_20 (by decide) ?_
  refine lv_iadd (pc := 21) hx hb dX3_enterTurn_21 ?_
  refine lv_iload_n (pc := 22) hx hb dX3_enterTurn_22 rfl (lv_at hl 3 rfl) ?_
  obtain ⟨k5, ek5, h⟩ := tl_j1 h
  have hJ5 : ∀ (x4 : Int32) (H : Heap) (locs : List Loc) (ls : Array Slot), k5 x4 = some σo → va_P g.1 vwCl (tl_W g σ3) H → va_S (tl_A g) s.heap H locs → lv_has ls 5 [(0, .ref (tl_ad g 0)), (3, .int x1)] → W p l e rX3_enterTurn s m [.ref (tl_ad g 0), .int a1, .int a2].toArray below meth c H locs 0 0 (MQ below (tl_Qv g σo) [.ref (tl_ad g 0), .int a1, .int a2].toArray s 0 0 (tl_A g)) (F0 m 31 ls [.int x4, .int (x1 + 1), .ref (tl_ad g 33)]) := by
    intro x4 H locs ls h hP hS hl
    replace h := (ek5 x4).trans h
    obtain ⟨g6, h⟩ := tl_gd h
    obtain ⟨σ7, eσ7, h⟩ := tl_nm h
    refine tl_ast (pc := 31) C hP hS (tl_a33 g) g6 eσ7 dX3_enterTurn_31 (fun H locs hP hS => ?_)
    refine lv_aload_n (pc := 32) hx hb dX3_enterTurn_32 rfl (lv_at hl 0 rfl) ?_
    refine tl_g0_4 (pc := 33) C hc3 hP lk1 dX3_enterTurn_33 ?_
    refine lv_iload_n (pc := 36) hx hb dX3_enterTurn_36 rfl (lv_at hl 1 rfl) ?_
    refine lv_iconst (pc := 37) (v := 2) hx hb dX3_enterTurn_37 (by decide) ?_
    refine lv_iadd (pc := 38) hx hb dX3_enterTurn_38 ?_
    refine lv_aload_n (pc := 39) hx hb dX3_enterTurn_39 rfl (lv_at hl 0 rfl) ?_
    refine tl_g0_0 (pc := 40) C hc3 hP lk2 dX3_enterTurn_40 ?_
    refine tl_gW_0 (pc := 43) C hc2 hP tl_W1 lk3 dX3_enterTurn_43 ?_
    refine lv_aload_n (pc := 46) hx hb dX3_enterTurn_46 rfl (lv_at hl 0 rfl) ?_
    refine tl_g0_0 (pc := 47) C hc3 hP lk2 dX3_enterTurn_47 ?_
    refine tl_gW_12 (pc := 50) C hc2 hP tl_W1 lk4 dX3_enterTurn_50 ?_
    refine lv_isub (pc := 53) hx hb dX3_enterTurn_53 ?_
    obtain ⟨g8, h⟩ := tl_gd h
    obtain ⟨σ9, eσ9, h⟩ := tl_nm h
    refine tl_ast (pc := 54) C hP hS (tl_a33 g) g8 eσ9 dX3_enterTurn_54 (fun H locs hP hS => ?_)
    refine lv_aload_n (pc := 55) hx hb dX3_enterTurn_55 rfl (lv_at hl 0 rfl) ?_
    refine tl_g0_4 (pc := 56) C hc3 hP lk1 dX3_enterTurn_56 ?_
    refine lv_iload_n (pc := 59) hx hb dX3_enterTurn_59 rfl (lv_at hl 1 rfl) ?_
    refine lv_iconst (pc := 60) (v := 3) hx hb dX3_enterTurn_60 (by decide) ?_
    refine lv_iadd (pc := 61) hx hb dX3_enterTurn_61 ?_
    refine lv_aload_n (pc := 62) hx hb dX3_enterTurn_62 rfl (lv_at hl 0 rfl) ?_
    refine tl_g0_0 (pc := 63) C hc3 hP lk2 dX3_enterTurn_63 ?_
    refine tl_gW_12 (pc := 66) C hc2 hP tl_W1 lk4 dX3_enterTurn_66 ?_
    obtain ⟨g10, h⟩ := tl_gd h
    obtain ⟨σ11, eσ11, h⟩ := tl_nm h
    refine tl_ast (pc := 69) C hP hS (tl_a33 g) g10 eσ11 dX3_enterTurn_69 (fun H locs hP hS => ?_)
    refine lv_aload_n (pc := 70) hx hb dX3_enterTurn_70 rfl (lv_at hl 0 rfl) ?_
    refine tl_g0_4 (pc := 71) C hc3 hP lk1 dX3_enterTurn_71 ?_
    refine lv_iload_n (pc := 74) hx hb dX3_enterTurn_74 rfl (lv_at hl 1 rfl) ?_
    refine lv_iconst (pc := 75) (v := 4) hx hb dX3_enterTurn_75 (by decide) ?_
    refine lv_iadd (pc := 76) hx hb dX3_enterTurn_76 ?_
    refine lv_aload_n (pc := 77) hx hb dX3_enterTurn_77 rfl (lv_at hl 0 rfl) ?_
    refine tl_g0_0 (pc := 78) C hc3 hP lk2 dX3_enterTurn_78 ?_
    refine tl_gW_13 (pc := 81) C hc2 hP tl_W1 lk5 dX3_enterTurn_81 ?_
    obtain ⟨g12, h⟩ := tl_gd h
    obtain ⟨σ13, eσ13, h⟩ := tl_nm h
    refine tl_ast (pc := 84) C hP hS (tl_a33 g) g12 eσ13 dX3_enterTurn_84 (fun H locs hP hS => ?_)
    refine lv_iconst (pc := 85) (v := 0) hx hb dX3_enterTurn_85 (by decide) ?_
    refine lv_istore (pc := 86) (lv' := [(4, .int 0), (0, .ref (tl_ad g 0)), (3, .int x1)]) hx hb dX3_enterTurn_86 hl (by decide) rfl (fun ls hl => ?_)
    obtain ⟨k15, ek15, h⟩ := tl_j1 h
    have hZ15 : ∀ (σ14 : tl_St) (H : Heap) (locs : List Loc) (ls : Array Slot), k15 σ14 = some σo → va_P g.1 vwCl (tl_W g σ14) H → va_S (tl_A g) s.heap H locs → lv_has ls 5 [(0, .ref (tl_ad g 0))] → W p l e rX3_enterTurn s m [.ref (tl_ad g 0), .int a1, .int a2].toArray below meth c H locs 0 0 (MQ below (tl_Qv g σo) [.ref (tl_ad g 0), .int a1, .int a2].toArray s 0 0 (tl_A g)) (F0 m 121 ls []) := by
      intro σ14 H locs ls h hP hS hl
      replace h := (ek15 σ14).trans h
      refine lv_aload_n (pc := 121) hx hb dX3_enterTurn_121 rfl (lv_at hl 0 rfl) ?_
      refine lv_dup (pc := 122) hx hb dX3_enterTurn_122 rfl ?_
      refine tl_g0_5 (pc := 123) C hc3 hP lk0 dX3_enterTurn_123 ?_
      refine lv_iconst (pc := 126) (v := 1) hx hb dX3_enterTurn_126 (by decide) ?_
      refine lv_iadd (pc := 127) hx hb dX3_enterTurn_127 ?_
      obtain ⟨σ16, eσ16, h⟩ := tl_nm h
      refine tl_s0_5 (pc := 128) C hc3 hP hS eσ16 lk0 dX3_enterTurn_128 (fun H locs hP hS => ?_)
      exact tl_Rvpw (pc := 131) C h hP hS dX3_enterTurn_131
    have hL88 : ∀ (n : Nat) (σ17 : tl_St) (x18 : Int32) (H : Heap) (locs : List Loc) (ls : Array Slot), fX3_enterTurn_L88 x1 k15 n σ17 x18 = some σo → va_P g.1 vwCl (tl_W g σ17) H → va_S (tl_A g) s.heap H locs → lv_has ls 5 [(0, .ref (tl_ad g 0)), (3, .int x1), (4, .int x18)] → W p l e rX3_enterTurn s m [.ref (tl_ad g 0), .int a1, .int a2].toArray below meth c H locs 0 0 (MQ below (tl_Qv g σo) [.ref (tl_ad g 0), .int a1, .int a2].toArray s 0 0 (tl_A g)) (F0 m 88 ls []) := by
      intro n
      induction n with
      | zero =>
        intro σ17 x18 H locs ls h hP hS hl
        rw [fX3_enterTurn_L88] at h
        cases h
      | succ n ih =>
        intro σ17 x18 H locs ls h hP hS hl
        rw [fX3_enterTurn_L88] at h
        refine lv_iload (pc := 88) hx hb dX3_enterTurn_88 (lv_at hl 2 rfl) ?_
        refine lv_iconst (pc := 90) (v := 4) hx hb dX3_enterTurn_90 (by decide) ?_
        refine lv_icmp_ge (pc := 91) (tgt := 121) hx hb dX3_enterTurn_91 (by decide) (fun c19 => ?_) (fun c19 => ?_)
        · replace h := (if_pos c19).symm.trans h
          exact hZ15 σ17 _ _ _ h hP hS (lv_sub hl [0] rfl)
        · replace h := (if_neg c19).symm.trans h
          refine lv_aload_n (pc := 94) hx hb dX3_enterTurn_94 rfl (lv_at hl 0 rfl) ?_
          refine tl_g0_4 (pc := 95) C hc3 hP lk1 dX3_enterTurn_95 ?_
          refine lv_iload_n (pc := 98) hx hb dX3_enterTurn_98 rfl (lv_at hl 1 rfl) ?_
          refine lv_iconst (pc := 99) (v := 5) hx hb dX3_enterTurn_99 (by decide) ?_
          refine lv_iadd (pc := 100) hx hb dX3_enterTurn_100 ?_
          refine lv_iload (pc := 101) hx hb dX3_enterTurn_101 (lv_at hl 2 rfl) ?_
          refine lv_iadd (pc := 103) hx hb dX3_enterTurn_103 ?_
          refine lv_aload_n (pc := 104) hx hb dX3_enterTurn_104 rfl (lv_at hl 0 rfl) ?_
          refine tl_g0_0 (pc := 105) C hc3 hP lk2 dX3_enterTurn_105 ?_
          refine tl_gW_11 (pc := 108) C hc2 hP tl_W1 lk6 dX3_enterTurn_108 ?_
          refine lv_iload (pc := 111) hx hb dX3_enterTurn_111 (lv_at hl 2 rfl) ?_
          obtain ⟨g20, h⟩ := tl_gd h
          refine tl_ald (pc := 113) C hP (tl_aW8 tl_W1 g) g20 dX3_enterTurn_113 ?_
          obtain ⟨g21, h⟩ := tl_gd h
          obtain ⟨σ22, eσ22, h⟩ := tl_nm h
          refine tl_ast (pc := 114) C hP hS (tl_a33 g) g21 eσ22 dX3_enterTurn_114 (fun H locs hP hS => ?_)
          obtain ⟨x23, ex23, h⟩ := tl_nm h
          refine lv_iinc (pc := 115) (v := x23) (lv' := [(4, .int x23), (0, .ref (tl_ad g 0)), (3, .int x1)]) hx hb dX3_enterTurn_115 hl (k := 2) rfl ex23 (by decide) rfl (fun ls hl => ?_)
          refine lv_goto (pc := 118) (tgt := 88) hx hb dX3_enterTurn_118 (by decide) ?_
          exact ih σ22 x23 _ _ _ h hP hS (lv_sub hl [1, 2, 0] rfl)
    exact hL88 1000 σ13 0 _ _ _ h hP hS (lv_sub hl [1, 2, 0] rfl)
  refine lv_if_eq (pc := 23) (tgt := 30) hx hb dX3_enterTurn_23 (by decide) (fun c24 => ?_) (fun c24 => ?_)
  · replace h := (if_pos c24).symm.trans h
    refine lv_iconst (pc := 30) (v := 0) hx hb dX3_enterTurn_30 (by decide) ?_
    exact hJ5 0 _ _ _ h hP hS (lv_sub hl [1, 0] rfl)
  · replace h := (if_neg c24).symm.trans h
    refine lv_iconst (pc := 26) (v := 1) hx hb dX3_enterTurn_26 (by decide) ?_
    refine lv_goto (pc := 27) (tgt := 31) hx hb dX3_enterTurn_27 (by decide) ?_
    exact hJ5 1 _ _ _ h hP hS (lv_sub hl [1, 0] rfl)
theorem caX3_enterTurn {p : Program} {l : Launch} {e : Env} {R : Room} {s : State} {m : MethodId} {args : Array Value} {below : List Frame} {meth : Method} {c : Code} {H : Heap} {locs : List Loc} {Q : State → Prop} {cc : ByteArray} {pc : Nat} {ls : Array Slot} {rest : List Value} {g : tl_G} {σ : tl_St} {H0 : Heap} {nL : Nat} {own : String} {ret : Option FieldType} {index : Nat} (C : tl_C p s m meth c cc nL own ret g) {Ts : List Cond} (hts : ∀ w ∈ Ts, w.before args s = true) (hP : va_P g.1 vwCl (tl_W g σ) H) (hS : va_S (tl_A g) H0 H locs) {a1 : Int32} {a2 : Int32} {σo : tl_St} (h : fX3_enterTurn σ a1 a2 = some σo) (hG : GoodIn Ts (wsV own index RX3 yX3_enterTurn wsX3_enterTurn)) (hR : 0 + 1 ≤ R.frames ∧ 8 + (5 + 11) + 0 ≤ R.locals) (hls : ls.size = nL) (hrm : (rest.map fun v => v.category).sum ≤ 8) (hdg : decode cc pc = .ok (.invokevirtual index, 3)) (kk : ∀ (H1 : Heap) (locs1 : List Loc), va_P g.1 vwCl (tl_W g σo) H1 → va_S (tl_A g) H0 H1 locs1 → W p l e R s m args below meth c H1 locs1 0 0 Q (F0 m (pc + 3) ls (rest))) : W p l e R s m args below meth c H locs 0 0 Q (F0 m pc ls (.int a2 :: .int a1 :: .ref (tl_ad g 0) :: rest)) :=
  tl_gov (tl_callV C hts hP (okX3_enterTurn l g C.2.2.2.2.2.2.2 σ a1 a2 σo h) rfl rfl rfl (n := 2) (by decide +kernel) rfl (ci := 3) rfl (tl_k0 g σ) hG hR hls rfl hrm hdg) hS kk
abbrev rX3_makeTurnFor : Room := { frames := 3, cells := 0, slots := 0, locals := 71 }
set_option maxHeartbeats 4000000 in
set_option maxRecDepth 100000 in
theorem okX3_makeTurnFor (l : Launch) (g : tl_G) (hI : tl_I g) (σ : tl_St) (a1 : Int32) (σo : tl_St) (h : fX3_makeTurnFor σ a1 = some σo) : Met l yX3_makeTurnFor wsX3_makeTurnFor rX3_makeTurnFor (va_Pc [.ref (tl_ad g 0), .int a1] (tl_Pre g σ)) (tl_Qv g σo) 0 0 (tl_A g) := by
  refine tl_enter (cc := cX3_makeTurnFor) (maxL := 3) (ret := none) (own := RX3) hI (by decide) rfl rfl (Nat.le_of_ble_eq_true rfl) ?_
  intro p e s m below meth c C hts H locs hP hS ls hl
  have hx := C.1
  have hb := C.2.1
  have hl : lv_has ls 3 [(0, .ref (tl_ad g 0)), (1, .int a1)] := hl
  have hc2 : ∀ w ∈ u_ws RX2 TX2 14, w.before [.ref (tl_ad g 0), .int a1].toArray s = true := fun w hw => hts w (List.mem_cons_of_mem _ (List.mem_append_right _ hw))
  have hc3 : ∀ w ∈ u_ws RX3 TX3 13, w.before [.ref (tl_ad g 0), .int a1].toArray s = true := fun w hw => hts w (List.mem_cons_of_mem _ (List.mem_append_left _ (List.mem_append_right _ hw)))
  have lk0 : (Cond.fieldLink RX3 10 "ThriftLock" "water" "LThriftLock$Water;").before [.ref (tl_ad g 0), .int a1].toArray s = true := hts _ (List.mem_cons_of_mem _ (List.mem_append_left _ (List.mem_append_left _ (List.mem_append_left _ (List.mem_of_getElem? (i := 0) rfl)))))
  have lk1 : (Cond.fieldLink RX3 37 "ThriftLock$Water" "inChamber" "I").before [.ref (tl_ad g 0), .int a1].toArray s = true := hts _ (List.mem_cons_of_mem _ (List.mem_append_left _ (List.mem_append_left _ (List.mem_append_left _ (List.mem_of_getElem? (i := 1) rfl)))))
  have lk2 : (Cond.fieldLink RX3 149 "ThriftLock" "leakedEver" "I").before [.ref (tl_ad g 0), .int a1].toArray s = true := hts _ (List.mem_cons_of_mem _ (List.mem_append_left _ (List.mem_append_left _ (List.mem_append_left _ (List.mem_of_getElem? (i := 5) rfl)))))
  have lk3 : (Cond.fieldLink RX3 161 "ThriftLock$Water" "leaked" "I").before [.ref (tl_ad g 0), .int a1].toArray s = true := hts _ (List.mem_cons_of_mem _ (List.mem_append_left _ (List.mem_append_left _ (List.mem_append_left _ (List.mem_of_getElem? (i := 6) rfl)))))
  have lk4 : (Cond.fieldLink RX3 155 "ThriftLock" "turnsEver" "I").before [.ref (tl_ad g 0), .int a1].toArray s = true := hts _ (List.mem_cons_of_mem _ (List.mem_append_left _ (List.mem_append_left _ (List.mem_append_left _ (List.mem_of_getElem? (i := 7) rfl)))))
  have lk5 : (Cond.fieldLink RX3 131 "ThriftLock" "turnsKept" "I").before [.ref (tl_ad g 0), .int a1].toArray s = true := hts _ (List.mem_cons_of_mem _ (List.mem_append_left _ (List.mem_append_left _ (List.mem_append_left _ (List.mem_of_getElem? (i := 8) rfl)))))
  have lk6 : (Cond.fieldLink RX3 146 "ThriftLock" "lostEver" "I").before [.ref (tl_ad g 0), .int a1].toArray s = true := hts _ (List.mem_cons_of_mem _ (List.mem_append_left _ (List.mem_append_left _ (List.mem_append_left _ (List.mem_of_getElem? (i := 4) rfl)))))
  have lk7 : (Cond.fieldLink RX3 140 "ThriftLock$Water" "outside" "I").before [.ref (tl_ad g 0), .int a1].toArray s = true := hts _ (List.mem_cons_of_mem _ (List.mem_append_left _ (List.mem_append_left _ (List.mem_append_left _ (List.mem_of_getElem? (i := 3) rfl)))))
  have lk8 : (Cond.fieldLink RX3 143 "ThriftLock" "drawnEver" "I").before [.ref (tl_ad g 0), .int a1].toArray s = true := hts _ (List.mem_cons_of_mem _ (List.mem_append_left _ (List.mem_append_left _ (List.mem_append_left _ (List.mem_of_getElem? (i := 2) rfl)))))
  unfold fX3_makeTurnFor at h
  refine lv_aload_n (pc := 0) hx hb dX3_makeTurnFor_0 rfl (lv_at hl 0 rfl) ?_
  refine tl_g0_0 (pc := 1) C hc3 hP lk0 dX3_makeTurnFor_1 ?_
  refine tl_gW_1 (pc := 4) C hc2 hP tl_W1 lk1 dX3_makeTurnFor_4 ?_
  obtain ⟨k2, ek2, h⟩ := tl_j1 h
  have hJ2 : ∀ (x1 : Int32) (H : Heap) (locs : List Loc) (ls : Array Slot), k2 x1 = some σo → va_P g.1 vwCl (tl_W g σ) H → va_S (tl_A g) s.heap H locs → lv_has ls 3 [(0, .ref (tl_ad g 0)), (1, .int a1)] → W p l e rX3_makeTurnFor s m [.ref (tl_ad g 0), .int a1].toArray below meth c H locs 0 0 (MQ below (tl_Qv g σo) [.ref (tl_ad g 0), .int a1].toArray s 0 0 (tl_A g)) (F0 m 15 ls [.int x1]) := by
    intro x1 H locs ls h hP hS hl
    replace h := (ek2 x1).trans h
    refine lv_istore_n (pc := 15) (lv' := [(2, .int x1), (0, .ref (tl_ad g 0)), (1, .int a1)]) hx hb dX3_makeTurnFor_15 rfl hl (by decide) rfl (fun ls hl => ?_)
    refine lv_aload_n (pc := 16) hx hb dX3_makeTurnFor_16 rfl (lv_at hl 1 rfl) ?_
    refine tl_g0_0 (pc := 17) C hc3 hP lk0 dX3_makeTurnFor_17 ?_
    obtain ⟨σ3, eσ3, h⟩ := tl_o1s h
    refine caX2_makeTurn (pc := 20) C hts hP hS tl_W1 eσ3 gX3_makeTurnFor_X2_makeTurn ⟨Nat.le_of_ble_eq_true rfl, Nat.le_of_ble_eq_true rfl⟩ hl.1 (Nat.le_of_ble_eq_true rfl) dX3_makeTurnFor_20 (fun H locs hP hS => ?_)
    refine lv_iload_n (pc := 23) hx hb dX3_makeTurnFor_23 rfl (lv_at hl 0 rfl) ?_
    obtain ⟨k5, ek5, h⟩ := tl_j1 h
    have hJ5 : ∀ (σ4 : tl_St) (H : Heap) (locs : List Loc) (ls : Array Slot), k5 σ4 = some σo → va_P g.1 vwCl (tl_W g σ4) H → va_S (tl_A g) s.heap H locs → lv_has ls 3 [(0, .ref (tl_ad g 0)), (1, .int a1), (2, .int x1)] → W p l e rX3_makeTurnFor s m [.ref (tl_ad g 0), .int a1].toArray below meth c H locs 0 0 (MQ below (tl_Qv g σo) [.ref (tl_ad g 0), .int a1].toArray s 0 0 (tl_A g)) (F0 m 62 ls []) := by
      intro σ4 H locs ls h hP hS hl
      replace h := (ek5 σ4).trans h
      refine lv_aload_n (pc := 62) hx hb dX3_makeTurnFor_62 rfl (lv_at hl 0 rfl) ?_
      refine lv_dup (pc := 63) hx hb dX3_makeTurnFor_63 rfl ?_
      refine tl_g0_9 (pc := 64) C hc3 hP lk2 dX3_makeTurnFor_64 ?_
      refine lv_aload_n (pc := 67) hx hb dX3_makeTurnFor_67 rfl (lv_at hl 0 rfl) ?_
      refine tl_g0_0 (pc := 68) C hc3 hP lk0 dX3_makeTurnFor_68 ?_
      refine tl_gW_13 (pc := 71) C hc2 hP tl_W1 lk3 dX3_makeTurnFor_71 ?_
      refine lv_iadd (pc := 74) hx hb dX3_makeTurnFor_74 ?_
      obtain ⟨σ6, eσ6, h⟩ := tl_nm h
      refine tl_s0_9 (pc := 75) C hc3 hP hS eσ6 lk2 dX3_makeTurnFor_75 (fun H locs hP hS => ?_)
      refine lv_aload_n (pc := 78) hx hb dX3_makeTurnFor_78 rfl (lv_at hl 0 rfl) ?_
      refine lv_dup (pc := 79) hx hb dX3_makeTurnFor_79 rfl ?_
      refine tl_g0_6 (pc := 80) C hc3 hP lk4 dX3_makeTurnFor_80 ?_
      refine lv_iconst (pc := 83) (v := 1) hx hb dX3_makeTurnFor_83 (by decide) ?_
      refine lv_iadd (pc := 84) hx hb dX3_makeTurnFor_84 ?_
      obtain ⟨σ7, eσ7, h⟩ := tl_nm h
      refine tl_s0_6 (pc := 85) C hc3 hP hS eσ7 lk4 dX3_makeTurnFor_85 (fun H locs hP hS => ?_)
      refine lv_aload_n (pc := 88) hx hb dX3_makeTurnFor_88 rfl (lv_at hl 0 rfl) ?_
      refine tl_g0_5 (pc := 89) C hc3 hP lk5 dX3_makeTurnFor_89 ?_
      refine lv_bipush (pc := 92) (v := 60) hx hb dX3_makeTurnFor_92 (by decide) ?_
      refine lv_icmp_ge (pc := 94) (tgt := 103) hx hb dX3_makeTurnFor_94 (by decide) (fun c8 => ?_) (fun c8 => ?_)
      · replace h := (if_pos c8).symm.trans h
        exact tl_Rvpw (pc := 103) C h hP hS dX3_makeTurnFor_103
      · replace h := (if_neg c8).symm.trans h
        refine lv_aload_n (pc := 97) hx hb dX3_makeTurnFor_97 rfl (lv_at hl 0 rfl) ?_
        refine lv_iload_n (pc := 98) hx hb dX3_makeTurnFor_98 rfl (lv_at hl 1 rfl) ?_
        refine lv_iload_n (pc := 99) hx hb dX3_makeTurnFor_99 rfl (lv_at hl 2 rfl) ?_
        obtain ⟨σ9, eσ9, h⟩ := tl_o1s h
        refine caX3_enterTurn (pc := 100) C hts hP hS eσ9 gX3_makeTurnFor_X3_enterTurn ⟨Nat.le_of_ble_eq_true rfl, Nat.le_of_ble_eq_true rfl⟩ hl.1 (Nat.le_of_ble_eq_true rfl) dX3_makeTurnFor_100 (fun H locs hP hS => ?_)
        exact tl_Rvpw (pc := 103) C h hP hS dX3_makeTurnFor_103
    refine lv_if_eq (pc := 24) (tgt := 46) hx hb dX3_makeTurnFor_24 (by decide) (fun c10 => ?_) (fun c10 => ?_)
    · replace h := (if_pos c10).symm.trans h
      refine lv_aload_n (pc := 46) hx hb dX3_makeTurnFor_46 rfl (lv_at hl 1 rfl) ?_
      refine lv_dup (pc := 47) hx hb dX3_makeTurnFor_47 rfl ?_
      refine tl_g0_8 (pc := 48) C hc3 hP lk6 dX3_makeTurnFor_48 ?_
      refine lv_aload_n (pc := 51) hx hb dX3_makeTurnFor_51 rfl (lv_at hl 1 rfl) ?_
      refine tl_g0_0 (pc := 52) C hc3 hP lk0 dX3_makeTurnFor_52 ?_
      refine tl_gW_12 (pc := 55) C hc2 hP tl_W1 lk7 dX3_makeTurnFor_55 ?_
      refine lv_iadd (pc := 58) hx hb dX3_makeTurnFor_58 ?_
      obtain ⟨σ11, eσ11, h⟩ := tl_nm h
      refine tl_s0_8 (pc := 59) C hc3 hP hS eσ11 lk6 dX3_makeTurnFor_59 (fun H locs hP hS => ?_)
      exact hJ5 σ11 _ _ _ h hP hS (lv_sub hl [1, 2, 0] rfl)
    · replace h := (if_neg c10).symm.trans h
      refine lv_aload_n (pc := 27) hx hb dX3_makeTurnFor_27 rfl (lv_at hl 1 rfl) ?_
      refine lv_dup (pc := 28) hx hb dX3_makeTurnFor_28 rfl ?_
      refine tl_g0_7 (pc := 29) C hc3 hP lk8 dX3_makeTurnFor_29 ?_
      refine lv_aload_n (pc := 32) hx hb dX3_makeTurnFor_32 rfl (lv_at hl 1 rfl) ?_
      refine tl_g0_0 (pc := 33) C hc3 hP lk0 dX3_makeTurnFor_33 ?_
      refine tl_gW_12 (pc := 36) C hc2 hP tl_W1 lk7 dX3_makeTurnFor_36 ?_
      refine lv_iadd (pc := 39) hx hb dX3_makeTurnFor_39 ?_
      obtain ⟨σ12, eσ12, h⟩ := tl_nm h
      refine tl_s0_7 (pc := 40) C hc3 hP hS eσ12 lk8 dX3_makeTurnFor_40 (fun H locs hP hS => ?_)
      refine lv_goto (pc := 43) (tgt := 62) hx hb dX3_makeTurnFor_43 (by decide) ?_
      exact hJ5 σ12 _ _ _ h hP hS (lv_sub hl [1, 2, 0] rfl)
  refine lv_if_ne (pc := 7) (tgt := 14) hx hb dX3_makeTurnFor_7 (by decide) (fun c13 => ?_) (fun c13 => ?_)
  · replace h := (if_neg c13).symm.trans h
    refine lv_iconst (pc := 14) (v := 0) hx hb dX3_makeTurnFor_14 (by decide) ?_
    exact hJ2 0 _ _ _ h hP hS (lv_sub hl [0, 1] rfl)
  · replace h := (if_pos c13).symm.trans h
    refine lv_iconst (pc := 10) (v := 1) hx hb dX3_makeTurnFor_10 (by decide) ?_
    refine lv_goto (pc := 11) (tgt := 15) hx hb dX3_makeTurnFor_11 (by decide) ?_
    exact hJ2 1 _ _ _ h hP hS (lv_sub hl [0, 1] rfl)
theorem caX3_makeTurnFor {p : Program} {l : Launch} {e : Env} {R : Room} {s : State} {m : MethodId} {args : Array Value} {below : List Frame} {meth : Method} {c : Code} {H : Heap} {locs : List Loc} {Q : State → Prop} {cc : ByteArray} {pc : Nat} {ls : Array Slot} {rest : List Value} {g : tl_G} {σ : tl_St} {H0 : Heap} {nL : Nat} {own : String} {ret : Option FieldType} {index : Nat} (C : tl_C p s m meth c cc nL own ret g) {Ts : List Cond} (hts : ∀ w ∈ Ts, w.before args s = true) (hP : va_P g.1 vwCl (tl_W g σ) H) (hS : va_S (tl_A g) H0 H locs) {a1 : Int32} {σo : tl_St} (h : fX3_makeTurnFor σ a1 = some σo) (hG : GoodIn Ts (wsV own index RX3 yX3_makeTurnFor wsX3_makeTurnFor)) (hR : 3 + 1 ≤ R.frames ∧ 8 + (3 + 11) + 71 ≤ R.locals) (hls : ls.size = nL) (hrm : (rest.map fun v => v.category).sum ≤ 8) (hdg : decode cc pc = .ok (.invokevirtual index, 3)) (kk : ∀ (H1 : Heap) (locs1 : List Loc), va_P g.1 vwCl (tl_W g σo) H1 → va_S (tl_A g) H0 H1 locs1 → W p l e R s m args below meth c H1 locs1 0 0 Q (F0 m (pc + 3) ls (rest))) : W p l e R s m args below meth c H locs 0 0 Q (F0 m pc ls (.int a1 :: .ref (tl_ad g 0) :: rest)) :=
  tl_gov (tl_callV C hts hP (okX3_makeTurnFor l g C.2.2.2.2.2.2.2 σ a1 σo h) rfl rfl rfl (n := 1) (by decide +kernel) rfl (ci := 3) rfl (tl_k0 g σ) hG hR hls rfl hrm hdg) hS kk
abbrev rX3_serve : Room := { frames := 4, cells := 0, slots := 0, locals := 93 }
set_option maxHeartbeats 4000000 in
set_option maxRecDepth 100000 in
theorem okX3_serve (l : Launch) (g : tl_G) (hI : tl_I g) (σ : tl_St) (ro : Int32) (σo : tl_St) (h : fX3_serve σ = some (ro, σo)) : Met l yX3_serve wsX3_serve rX3_serve (va_Pc [.ref (tl_ad g 0)] (tl_Pre g σ)) (tl_Qi g ro σo) 0 0 (tl_A g) := by
  refine tl_enter (cc := cX3_serve) (maxL := 4) (ret := (some .int)) (own := RX3) hI (by decide) rfl rfl (Nat.le_of_ble_eq_true rfl) ?_
  intro p e s m below meth c C hts H locs hP hS ls hl
  have hx := C.1
  have hb := C.2.1
  have hl : lv_has ls 4 [(0, .ref (tl_ad g 0))] := hl
  have hc3 : ∀ w ∈ u_ws RX3 TX3 13, w.before [.ref (tl_ad g 0)].toArray s = true := fun w hw => hts w (List.mem_cons_of_mem _ (List.mem_append_left _ (List.mem_append_left _ (List.mem_append_right _ hw))))
  have lk0 : (Cond.fieldLink RX3 131 "ThriftLock" "turnsKept" "I").before [.ref (tl_ad g 0)].toArray s = true := hts _ (List.mem_cons_of_mem _ (List.mem_append_left _ (List.mem_append_left _ (List.mem_append_left _ (List.mem_append_left _ (List.mem_of_getElem? (i := 0) rfl))))))
  have lk1 : (Cond.fieldLink RX3 21 "ThriftLock" "queues" "[LThriftLock$Queue;").before [.ref (tl_ad g 0)].toArray s = true := hts _ (List.mem_cons_of_mem _ (List.mem_append_left _ (List.mem_append_left _ (List.mem_append_left _ (List.mem_append_left _ (List.mem_of_getElem? (i := 1) rfl))))))
  unfold fX3_serve at h
  refine lv_aload_n (pc := 0) hx hb dX3_serve_0 rfl (lv_at hl 0 rfl) ?_
  obtain ⟨r1, er1, h⟩ := tl_o1s h
  refine caX3_wayServedNext (pc := 1) C hts hP hS er1 gX3_serve_X3_wayServedNext ⟨Nat.le_of_ble_eq_true rfl, Nat.le_of_ble_eq_true rfl⟩ hl.1 (Nat.le_of_ble_eq_true rfl) dX3_serve_1 (fun H locs hP hS => ?_)
  refine lv_istore_n (pc := 4) (lv' := [(1, .int r1), (0, .ref (tl_ad g 0))]) hx hb dX3_serve_4 rfl hl (by decide) rfl (fun ls hl => ?_)
  refine lv_iload_n (pc := 5) hx hb dX3_serve_5 rfl (lv_at hl 0 rfl) ?_
  refine lv_iconst (pc := 6) (v := (-1)) hx hb dX3_serve_6 (by decide) ?_
  refine lv_icmp_ne (pc := 7) (tgt := 13) hx hb dX3_serve_7 (by decide) (fun c2 => ?_) (fun c2 => ?_)
  · replace h := (if_neg c2).symm.trans h
    refine lv_aload_n (pc := 13) hx hb dX3_serve_13 rfl (lv_at hl 1 rfl) ?_
    refine lv_iload_n (pc := 14) hx hb dX3_serve_14 rfl (lv_at hl 0 rfl) ?_
    obtain ⟨r3, er3, h⟩ := tl_nm h
    refine caX3_turnsToServe (pc := 15) C hts hP hS er3 gX3_serve_X3_turnsToServe ⟨Nat.le_of_ble_eq_true rfl, Nat.le_of_ble_eq_true rfl⟩ hl.1 (Nat.le_of_ble_eq_true rfl) dX3_serve_15 (fun H locs hP hS => ?_)
    refine lv_istore_n (pc := 18) (lv' := [(2, .int r3), (1, .int r1), (0, .ref (tl_ad g 0))]) hx hb dX3_serve_18 rfl hl (by decide) rfl (fun ls hl => ?_)
    refine lv_aload_n (pc := 19) hx hb dX3_serve_19 rfl (lv_at hl 2 rfl) ?_
    refine tl_g0_5 (pc := 20) C hc3 hP lk0 dX3_serve_20 ?_
    refine lv_iload_n (pc := 23) hx hb dX3_serve_23 rfl (lv_at hl 0 rfl) ?_
    refine lv_iadd (pc := 24) hx hb dX3_serve_24 ?_
    refine lv_bipush (pc := 25) (v := 60) hx hb dX3_serve_25 (by decide) ?_
    refine lv_icmp_le (pc := 27) (tgt := 33) hx hb dX3_serve_27 (by decide) (fun c4 => ?_) (fun c4 => ?_)
    · replace h := (if_pos c4).symm.trans h
      refine lv_iload_n (pc := 33) hx hb dX3_serve_33 rfl (lv_at hl 0 rfl) ?_
      refine lv_iconst (pc := 34) (v := 2) hx hb dX3_serve_34 (by decide) ?_
      obtain ⟨k6, ek6, h⟩ := tl_j1 h
      have hJ6 : ∀ (σ5 : tl_St) (H : Heap) (locs : List Loc) (ls : Array Slot), k6 σ5 = some (ro, σo) → va_P g.1 vwCl (tl_W g σ5) H → va_S (tl_A g) s.heap H locs → lv_has ls 4 [(0, .ref (tl_ad g 0)), (1, .int r1)] → W p l e rX3_serve s m [.ref (tl_ad g 0)].toArray below meth c H locs 0 0 (MQ below (tl_Qi g ro σo) [.ref (tl_ad g 0)].toArray s 0 0 (tl_A g)) (F0 m 43 ls []) := by
        intro σ5 H locs ls h hP hS hl
        replace h := (ek6 σ5).trans h
        refine lv_aload_n (pc := 43) hx hb dX3_serve_43 rfl (lv_at hl 0 rfl) ?_
        refine tl_g0_2 (pc := 44) C hc3 hP lk1 dX3_serve_44 ?_
        refine lv_iload_n (pc := 47) hx hb dX3_serve_47 rfl (lv_at hl 1 rfl) ?_
        obtain ⟨g7, h⟩ := tl_gd h
        refine tl_aldQ (pc := 48) C hP g7 dX3_serve_48 ?_
        obtain ⟨o8, eo8, h⟩ := tl_nm h
        have io8 : tl_isQ o8 := by rw [← eo8]; exact tl_qOf g7
        refine tl_tr (congrArg (tl_ad g) eo8) ?_
        refine lv_iconst (pc := 49) (v := 0) hx hb dX3_serve_49 (by decide) ?_
        obtain ⟨r9, er9, h⟩ := tl_o1s h
        refine caX0_boatAt (pc := 50) C hts hP hS io8 er9 gX3_serve_X0_boatAt ⟨Nat.le_of_ble_eq_true rfl, Nat.le_of_ble_eq_true rfl⟩ hl.1 (Nat.le_of_ble_eq_true rfl) dX3_serve_50 (fun H locs hP hS => ?_)
        refine lv_istore_n (pc := 53) (lv' := [(3, .int r9), (0, .ref (tl_ad g 0)), (1, .int r1)]) hx hb dX3_serve_53 rfl hl (by decide) rfl (fun ls hl => ?_)
        refine lv_aload_n (pc := 54) hx hb dX3_serve_54 rfl (lv_at hl 1 rfl) ?_
        refine tl_g0_2 (pc := 55) C hc3 hP lk1 dX3_serve_55 ?_
        refine lv_iload_n (pc := 58) hx hb dX3_serve_58 rfl (lv_at hl 2 rfl) ?_
        obtain ⟨g10, h⟩ := tl_gd h
        refine tl_aldQ (pc := 59) C hP g10 dX3_serve_59 ?_
        obtain ⟨o11, eo11, h⟩ := tl_nm h
        have io11 : tl_isQ o11 := by rw [← eo11]; exact tl_qOf g10
        refine tl_tr (congrArg (tl_ad g) eo11) ?_
        refine lv_iconst (pc := 60) (v := 0) hx hb dX3_serve_60 (by decide) ?_
        obtain ⟨σ12, eσ12, h⟩ := tl_o1s h
        refine caX0_removeAt (pc := 61) C hts hP hS io11 eσ12 gX3_serve_X0_removeAt ⟨Nat.le_of_ble_eq_true rfl, Nat.le_of_ble_eq_true rfl⟩ hl.1 (Nat.le_of_ble_eq_true rfl) dX3_serve_61 (fun H locs hP hS => ?_)
        refine lv_aload_n (pc := 64) hx hb dX3_serve_64 rfl (lv_at hl 1 rfl) ?_
        refine lv_iload_n (pc := 65) hx hb dX3_serve_65 rfl (lv_at hl 0 rfl) ?_
        obtain ⟨σ13, eσ13, h⟩ := tl_o1s h
        refine caX3_makeTurnFor (pc := 66) C hts hP hS eσ13 gX3_serve_X3_makeTurnFor ⟨Nat.le_of_ble_eq_true rfl, Nat.le_of_ble_eq_true rfl⟩ hl.1 (Nat.le_of_ble_eq_true rfl) dX3_serve_66 (fun H locs hP hS => ?_)
        refine lv_iload_n (pc := 69) hx hb dX3_serve_69 rfl (lv_at hl 0 rfl) ?_
        exact tl_Ripw (pc := 70) C h hP hS dX3_serve_70
      refine lv_icmp_ne (pc := 35) (tgt := 43) hx hb dX3_serve_35 (by decide) (fun c14 => ?_) (fun c14 => ?_)
      · replace h := (if_neg c14).symm.trans h
        exact hJ6 σ _ _ _ h hP hS (lv_sub hl [2, 1] rfl)
      · replace h := (if_pos c14).symm.trans h
        refine lv_aload_n (pc := 38) hx hb dX3_serve_38 rfl (lv_at hl 2 rfl) ?_
        refine lv_iconst (pc := 39) (v := (-1)) hx hb dX3_serve_39 (by decide) ?_
        obtain ⟨σ15, eσ15, h⟩ := tl_o1s h
        refine caX3_makeTurnFor (pc := 40) C hts hP hS eσ15 gX3_serve_X3_makeTurnFor ⟨Nat.le_of_ble_eq_true rfl, Nat.le_of_ble_eq_true rfl⟩ hl.1 (Nat.le_of_ble_eq_true rfl) dX3_serve_40 (fun H locs hP hS => ?_)
        exact hJ6 σ15 _ _ _ h hP hS (lv_sub hl [2, 1] rfl)
    · replace h := (if_neg c4).symm.trans h
      refine lv_bipush (pc := 30) (v := (-4)) hx hb dX3_serve_30 (by decide) ?_
      exact tl_Ripw (pc := 32) C h hP hS dX3_serve_32
  · replace h := (if_pos c2).symm.trans h
    refine lv_bipush (pc := 10) (v := (-3)) hx hb dX3_serve_10 (by decide) ?_
    exact tl_Ripw (pc := 12) C h hP hS dX3_serve_12
theorem caX3_serve {p : Program} {l : Launch} {e : Env} {R : Room} {s : State} {m : MethodId} {args : Array Value} {below : List Frame} {meth : Method} {c : Code} {H : Heap} {locs : List Loc} {Q : State → Prop} {cc : ByteArray} {pc : Nat} {ls : Array Slot} {rest : List Value} {g : tl_G} {σ : tl_St} {H0 : Heap} {nL : Nat} {own : String} {ret : Option FieldType} {index : Nat} (C : tl_C p s m meth c cc nL own ret g) {Ts : List Cond} (hts : ∀ w ∈ Ts, w.before args s = true) (hP : va_P g.1 vwCl (tl_W g σ) H) (hS : va_S (tl_A g) H0 H locs) {ro : Int32} {σo : tl_St} (h : fX3_serve σ = some (ro, σo)) (hG : GoodIn Ts (wsV own index RX3 yX3_serve wsX3_serve)) (hR : 4 + 1 ≤ R.frames ∧ 8 + (4 + 11) + 93 ≤ R.locals) (hls : ls.size = nL) (hrm : (rest.map fun v => v.category).sum ≤ 8) (hdg : decode cc pc = .ok (.invokevirtual index, 3)) (kk : ∀ (H1 : Heap) (locs1 : List Loc), va_P g.1 vwCl (tl_W g σo) H1 → va_S (tl_A g) H0 H1 locs1 → W p l e R s m args below meth c H1 locs1 0 0 Q (F0 m (pc + 3) ls (.int ro :: rest))) : W p l e R s m args below meth c H locs 0 0 Q (F0 m pc ls (.ref (tl_ad g 0) :: rest)) :=
  tl_goi (tl_callV C hts hP (okX3_serve l g C.2.2.2.2.2.2.2 σ ro σo h) rfl rfl rfl (n := 0) (by decide +kernel) rfl (ci := 3) rfl (tl_k0 g σ) hG hR hls rfl hrm hdg) hS kk
abbrev rX3_next : Room := { frames := 2, cells := 0, slots := 0, locals := 43 }
set_option maxHeartbeats 4000000 in
set_option maxRecDepth 100000 in
theorem okX3_next (l : Launch) (g : tl_G) (hI : tl_I g) (σ : tl_St) (a1 : Int32) (ro : Int32) (h : fX3_next σ a1 = some ro) : Met l yX3_next wsX3_next rX3_next (va_Pc [.ref (tl_ad g 0), .int a1] (tl_Pre g σ)) (tl_Qi g ro σ) 0 0 (tl_A g) := by
  refine tl_enter (cc := cX3_next) (maxL := 3) (ret := (some .int)) (own := RX3) hI (by decide) rfl rfl (Nat.le_of_ble_eq_true rfl) ?_
  intro p e s m below meth c C hts H locs hP hS ls hl
  have hx := C.1
  have hb := C.2.1
  have hl : lv_has ls 3 [(0, .ref (tl_ad g 0)), (1, .int a1)] := hl
  have hc3 : ∀ w ∈ u_ws RX3 TX3 13, w.before [.ref (tl_ad g 0), .int a1].toArray s = true := fun w hw => hts w (List.mem_cons_of_mem _ (List.mem_append_left _ (List.mem_append_left _ (List.mem_append_right _ hw))))
  have lk0 : (Cond.fieldLink RX3 21 "ThriftLock" "queues" "[LThriftLock$Queue;").before [.ref (tl_ad g 0), .int a1].toArray s = true := hts _ (List.mem_cons_of_mem _ (List.mem_append_left _ (List.mem_append_left _ (List.mem_append_left _ (List.mem_of_getElem? (i := 0) rfl)))))
  unfold fX3_next at h
  refine lv_iload_n (pc := 0) hx hb dX3_next_0 rfl (lv_at hl 1 rfl) ?_
  obtain ⟨k1, ek1, h⟩ := tl_j0 h
  have hJ1 : ∀ (H : Heap) (locs : List Loc) (ls : Array Slot), k1 = some ro → va_P g.1 vwCl (tl_W g σ) H → va_S (tl_A g) s.heap H locs → lv_has ls 3 [(0, .ref (tl_ad g 0)), (1, .int a1)] → W p l e rX3_next s m [.ref (tl_ad g 0), .int a1].toArray below meth c H locs 0 0 (MQ below (tl_Qi g ro σ) [.ref (tl_ad g 0), .int a1].toArray s 0 0 (tl_A g)) (F0 m 12 ls []) := by
    intro H locs ls h hP hS hl
    replace h := ek1.trans h
    refine lv_aload_n (pc := 12) hx hb dX3_next_12 rfl (lv_at hl 0 rfl) ?_
    obtain ⟨r2, er2, h⟩ := tl_o1s h
    refine caX3_wayServedNext (pc := 13) C hts hP hS er2 gX3_next_X3_wayServedNext ⟨Nat.le_of_ble_eq_true rfl, Nat.le_of_ble_eq_true rfl⟩ hl.1 (Nat.le_of_ble_eq_true rfl) dX3_next_13 (fun H locs hP hS => ?_)
    refine lv_istore_n (pc := 16) (lv' := [(2, .int r2), (0, .ref (tl_ad g 0)), (1, .int a1)]) hx hb dX3_next_16 rfl hl (by decide) rfl (fun ls hl => ?_)
    refine lv_iload_n (pc := 17) hx hb dX3_next_17 rfl (lv_at hl 0 rfl) ?_
    refine lv_iconst (pc := 18) (v := (-1)) hx hb dX3_next_18 (by decide) ?_
    refine lv_icmp_ne (pc := 19) (tgt := 32) hx hb dX3_next_19 (by decide) (fun c3 => ?_) (fun c3 => ?_)
    · replace h := (if_neg c3).symm.trans h
      refine lv_iload_n (pc := 32) hx hb dX3_next_32 rfl (lv_at hl 2 rfl) ?_
      refine lv_if_ne (pc := 33) (tgt := 49) hx hb dX3_next_33 (by decide) (fun c4 => ?_) (fun c4 => ?_)
      · replace h := (if_neg c4).symm.trans h
        refine lv_aload_n (pc := 49) hx hb dX3_next_49 rfl (lv_at hl 1 rfl) ?_
        refine lv_iload_n (pc := 50) hx hb dX3_next_50 rfl (lv_at hl 0 rfl) ?_
        obtain ⟨r5, er5, h⟩ := tl_nm h
        refine caX3_turnsToServe (pc := 51) C hts hP hS er5 gX3_next_X3_turnsToServe ⟨Nat.le_of_ble_eq_true rfl, Nat.le_of_ble_eq_true rfl⟩ hl.1 (Nat.le_of_ble_eq_true rfl) dX3_next_51 (fun H locs hP hS => ?_)
        exact tl_Ripr (pc := 54) C h hP hS dX3_next_54
      · replace h := (if_pos c4).symm.trans h
        refine lv_aload_n (pc := 36) hx hb dX3_next_36 rfl (lv_at hl 1 rfl) ?_
        refine tl_g0_2 (pc := 37) C hc3 hP lk0 dX3_next_37 ?_
        refine lv_iload_n (pc := 40) hx hb dX3_next_40 rfl (lv_at hl 0 rfl) ?_
        obtain ⟨g6, h⟩ := tl_gd h
        refine tl_aldQ (pc := 41) C hP g6 dX3_next_41 ?_
        obtain ⟨o7, eo7, h⟩ := tl_nm h
        have io7 : tl_isQ o7 := by rw [← eo7]; exact tl_qOf g6
        refine tl_tr (congrArg (tl_ad g) eo7) ?_
        refine lv_iconst (pc := 42) (v := 0) hx hb dX3_next_42 (by decide) ?_
        obtain ⟨r8, er8, h⟩ := tl_o1s h
        refine caX0_boatAt (pc := 43) C hts hP hS io7 er8 gX3_next_X0_boatAt ⟨Nat.le_of_ble_eq_true rfl, Nat.le_of_ble_eq_true rfl⟩ hl.1 (Nat.le_of_ble_eq_true rfl) dX3_next_43 (fun H locs hP hS => ?_)
        refine lv_goto (pc := 46) (tgt := 54) hx hb dX3_next_46 (by decide) ?_
        exact tl_Ripr (pc := 54) C h hP hS dX3_next_54
    · replace h := (if_pos c3).symm.trans h
      refine lv_iload_n (pc := 22) hx hb dX3_next_22 rfl (lv_at hl 2 rfl) ?_
      refine lv_if_ne (pc := 23) (tgt := 30) hx hb dX3_next_23 (by decide) (fun c9 => ?_) (fun c9 => ?_)
      · replace h := (if_neg c9).symm.trans h
        refine lv_iconst (pc := 30) (v := 0) hx hb dX3_next_30 (by decide) ?_
        exact tl_Ripr (pc := 31) C h hP hS dX3_next_31
      · replace h := (if_pos c9).symm.trans h
        refine lv_iconst (pc := 26) (v := (-1)) hx hb dX3_next_26 (by decide) ?_
        refine lv_goto (pc := 27) (tgt := 31) hx hb dX3_next_27 (by decide) ?_
        exact tl_Ripr (pc := 31) C h hP hS dX3_next_31
  refine lv_if_eq (pc := 1) (tgt := 12) hx hb dX3_next_1 (by decide) (fun c10 => ?_) (fun c10 => ?_)
  · replace h := (if_pos c10).symm.trans h
    exact hJ1 _ _ _ h hP hS (lv_sub hl [0, 1] rfl)
  · replace h := (if_neg c10).symm.trans h
    refine lv_iload_n (pc := 4) hx hb dX3_next_4 rfl (lv_at hl 1 rfl) ?_
    refine lv_iconst (pc := 5) (v := 1) hx hb dX3_next_5 (by decide) ?_
    refine lv_icmp_eq (pc := 6) (tgt := 12) hx hb dX3_next_6 (by decide) (fun c11 => ?_) (fun c11 => ?_)
    · replace h := (if_pos c11).symm.trans h
      exact hJ1 _ _ _ h hP hS (lv_sub hl [0, 1] rfl)
    · replace h := (if_neg c11).symm.trans h
      refine lv_bipush (pc := 9) (v := (-2)) hx hb dX3_next_9 (by decide) ?_
      exact tl_Ripr (pc := 11) C h hP hS dX3_next_11
theorem caX3_next {p : Program} {l : Launch} {e : Env} {R : Room} {s : State} {m : MethodId} {args : Array Value} {below : List Frame} {meth : Method} {c : Code} {H : Heap} {locs : List Loc} {Q : State → Prop} {cc : ByteArray} {pc : Nat} {ls : Array Slot} {rest : List Value} {g : tl_G} {σ : tl_St} {H0 : Heap} {nL : Nat} {own : String} {ret : Option FieldType} {index : Nat} (C : tl_C p s m meth c cc nL own ret g) {Ts : List Cond} (hts : ∀ w ∈ Ts, w.before args s = true) (hP : va_P g.1 vwCl (tl_W g σ) H) (hS : va_S (tl_A g) H0 H locs) {a1 : Int32} {ro : Int32} (h : fX3_next σ a1 = some ro) (hG : GoodIn Ts (wsV own index RX3 yX3_next wsX3_next)) (hR : 2 + 1 ≤ R.frames ∧ 8 + (3 + 11) + 43 ≤ R.locals) (hls : ls.size = nL) (hrm : (rest.map fun v => v.category).sum ≤ 8) (hdg : decode cc pc = .ok (.invokevirtual index, 3)) (kk : ∀ (H1 : Heap) (locs1 : List Loc), va_P g.1 vwCl (tl_W g σ) H1 → va_S (tl_A g) H0 H1 locs1 → W p l e R s m args below meth c H1 locs1 0 0 Q (F0 m (pc + 3) ls (.int ro :: rest))) : W p l e R s m args below meth c H locs 0 0 Q (F0 m pc ls (.int a1 :: .ref (tl_ad g 0) :: rest)) :=
  tl_goi (tl_callV C hts hP (okX3_next l g C.2.2.2.2.2.2.2 σ a1 ro h) rfl rfl rfl (n := 1) (by decide +kernel) rfl (ci := 3) rfl (tl_k0 g σ) hG hR hls rfl hrm hdg) hS kk
abbrev rX3_turn : Room := { frames := 4, cells := 0, slots := 0, locals := 93 }
set_option maxHeartbeats 4000000 in
set_option maxRecDepth 100000 in
theorem okX3_turn (l : Launch) (g : tl_G) (hI : tl_I g) (σ : tl_St) (ro : Int32) (σo : tl_St) (h : fX3_turn σ = some (ro, σo)) : Met l yX3_turn wsX3_turn rX3_turn (va_Pc [.ref (tl_ad g 0)] (tl_Pre g σ)) (tl_Qi g ro σo) 0 0 (tl_A g) := by
  refine tl_enter (cc := cX3_turn) (maxL := 1) (ret := (some .int)) (own := RX3) hI (by decide) rfl rfl (Nat.le_of_ble_eq_true rfl) ?_
  intro p e s m below meth c C hts H locs hP hS ls hl
  have hx := C.1
  have hb := C.2.1
  have hl : lv_has ls 1 [(0, .ref (tl_ad g 0))] := hl
  have hc2 : ∀ w ∈ u_ws RX2 TX2 14, w.before [.ref (tl_ad g 0)].toArray s = true := fun w hw => hts w (List.mem_cons_of_mem _ (List.mem_append_right _ hw))
  have hc3 : ∀ w ∈ u_ws RX3 TX3 13, w.before [.ref (tl_ad g 0)].toArray s = true := fun w hw => hts w (List.mem_cons_of_mem _ (List.mem_append_left _ (List.mem_append_right _ hw)))
  have lk0 : (Cond.fieldLink RX3 131 "ThriftLock" "turnsKept" "I").before [.ref (tl_ad g 0)].toArray s = true := hts _ (List.mem_cons_of_mem _ (List.mem_append_left _ (List.mem_append_left _ (List.mem_append_left _ (List.mem_of_getElem? (i := 0) rfl)))))
  have lk1 : (Cond.fieldLink RX3 10 "ThriftLock" "water" "LThriftLock$Water;").before [.ref (tl_ad g 0)].toArray s = true := hts _ (List.mem_cons_of_mem _ (List.mem_append_left _ (List.mem_append_left _ (List.mem_append_left _ (List.mem_of_getElem? (i := 1) rfl)))))
  have lk2 : (Cond.fieldLink RX3 140 "ThriftLock$Water" "outside" "I").before [.ref (tl_ad g 0)].toArray s = true := hts _ (List.mem_cons_of_mem _ (List.mem_append_left _ (List.mem_append_left _ (List.mem_append_left _ (List.mem_of_getElem? (i := 2) rfl)))))
  unfold fX3_turn at h
  refine lv_aload_n (pc := 0) hx hb dX3_turn_0 rfl (lv_at hl 0 rfl) ?_
  refine tl_g0_5 (pc := 1) C hc3 hP lk0 dX3_turn_1 ?_
  refine lv_bipush (pc := 4) (v := 60) hx hb dX3_turn_4 (by decide) ?_
  refine lv_icmp_lt (pc := 6) (tgt := 12) hx hb dX3_turn_6 (by decide) (fun c1 => ?_) (fun c1 => ?_)
  · replace h := (if_pos c1).symm.trans h
    refine lv_aload_n (pc := 12) hx hb dX3_turn_12 rfl (lv_at hl 0 rfl) ?_
    refine lv_iconst (pc := 13) (v := (-1)) hx hb dX3_turn_13 (by decide) ?_
    obtain ⟨σ2, eσ2, h⟩ := tl_o1s h
    refine caX3_makeTurnFor (pc := 14) C hts hP hS eσ2 gX3_turn_X3_makeTurnFor ⟨Nat.le_of_ble_eq_true rfl, Nat.le_of_ble_eq_true rfl⟩ hl.1 (Nat.le_of_ble_eq_true rfl) dX3_turn_14 (fun H locs hP hS => ?_)
    refine lv_aload_n (pc := 17) hx hb dX3_turn_17 rfl (lv_at hl 0 rfl) ?_
    refine tl_g0_0 (pc := 18) C hc3 hP lk1 dX3_turn_18 ?_
    refine tl_gW_12 (pc := 21) C hc2 hP tl_W1 lk2 dX3_turn_21 ?_
    exact tl_Ripw (pc := 24) C h hP hS dX3_turn_24
  · replace h := (if_neg c1).symm.trans h
    refine lv_bipush (pc := 9) (v := (-4)) hx hb dX3_turn_9 (by decide) ?_
    exact tl_Ripw (pc := 11) C h hP hS dX3_turn_11
theorem caX3_turn {p : Program} {l : Launch} {e : Env} {R : Room} {s : State} {m : MethodId} {args : Array Value} {below : List Frame} {meth : Method} {c : Code} {H : Heap} {locs : List Loc} {Q : State → Prop} {cc : ByteArray} {pc : Nat} {ls : Array Slot} {rest : List Value} {g : tl_G} {σ : tl_St} {H0 : Heap} {nL : Nat} {own : String} {ret : Option FieldType} {index : Nat} (C : tl_C p s m meth c cc nL own ret g) {Ts : List Cond} (hts : ∀ w ∈ Ts, w.before args s = true) (hP : va_P g.1 vwCl (tl_W g σ) H) (hS : va_S (tl_A g) H0 H locs) {ro : Int32} {σo : tl_St} (h : fX3_turn σ = some (ro, σo)) (hG : GoodIn Ts (wsV own index RX3 yX3_turn wsX3_turn)) (hR : 4 + 1 ≤ R.frames ∧ 8 + (1 + 11) + 93 ≤ R.locals) (hls : ls.size = nL) (hrm : (rest.map fun v => v.category).sum ≤ 8) (hdg : decode cc pc = .ok (.invokevirtual index, 3)) (kk : ∀ (H1 : Heap) (locs1 : List Loc), va_P g.1 vwCl (tl_W g σo) H1 → va_S (tl_A g) H0 H1 locs1 → W p l e R s m args below meth c H1 locs1 0 0 Q (F0 m (pc + 3) ls (.int ro :: rest))) : W p l e R s m args below meth c H locs 0 0 Q (F0 m pc ls (.ref (tl_ad g 0) :: rest)) :=
  tl_goi (tl_callV C hts hP (okX3_turn l g C.2.2.2.2.2.2.2 σ ro σo h) rfl rfl rfl (n := 0) (by decide +kernel) rfl (ci := 3) rfl (tl_k0 g σ) hG hR hls rfl hrm hdg) hS kk
abbrev rX3_ledger : Room := { frames := 0, cells := 0, slots := 0, locals := 0 }
set_option maxHeartbeats 4000000 in
set_option maxRecDepth 100000 in
theorem okX3_ledger (l : Launch) (g : tl_G) (hI : tl_I g) (σ : tl_St) (a1 : Int32) (a2 : Int32) (ro : Int32) (h : fX3_ledger σ a1 a2 = some ro) : Met l yX3_ledger wsX3_ledger rX3_ledger (va_Pc [.ref (tl_ad g 0), .int a1, .int a2] (tl_Pre g σ)) (tl_Qi g ro σ) 0 0 (tl_A g) := by
  refine tl_enter (cc := cX3_ledger) (maxL := 3) (ret := (some .int)) (own := RX3) hI (by decide) rfl rfl (Nat.le_of_ble_eq_true rfl) ?_
  intro p e s m below meth c C hts H locs hP hS ls hl
  have hx := C.1
  have hb := C.2.1
  have hl : lv_has ls 3 [(0, .ref (tl_ad g 0)), (1, .int a1), (2, .int a2)] := hl
  have hc3 : ∀ w ∈ u_ws RX3 TX3 13, w.before [.ref (tl_ad g 0), .int a1, .int a2].toArray s = true := fun w hw => hts w (List.mem_cons_of_mem _ (List.mem_append_right _ hw))
  have lk0 : (Cond.fieldLink RX3 131 "ThriftLock" "turnsKept" "I").before [.ref (tl_ad g 0), .int a1, .int a2].toArray s = true := hts _ (List.mem_cons_of_mem _ (List.mem_append_left _ (List.mem_of_getElem? (i := 0) rfl)))
  have lk1 : (Cond.fieldLink RX3 31 "ThriftLock" "rows" "[I").before [.ref (tl_ad g 0), .int a1, .int a2].toArray s = true := hts _ (List.mem_cons_of_mem _ (List.mem_append_left _ (List.mem_of_getElem? (i := 1) rfl)))
  unfold fX3_ledger at h
  refine lv_iload_n (pc := 0) hx hb dX3_ledger_0 rfl (lv_at hl 1 rfl) ?_
  refine lv_if_lt (pc := 1) (tgt := 22) hx hb dX3_ledger_1 (by decide) (fun c1 => ?_) (fun c1 => ?_)
  · replace h := (if_pos c1).symm.trans h
    refine lv_bipush (pc := 22) (v := (-2)) hx hb dX3_ledger_22 (by decide) ?_
    exact tl_Ripr (pc := 24) C h hP hS dX3_ledger_24
  · replace h := (if_neg c1).symm.trans h
    refine lv_iload_n (pc := 4) hx hb dX3_ledger_4 rfl (lv_at hl 1 rfl) ?_
    refine lv_aload_n (pc := 5) hx hb dX3_ledger_5 rfl (lv_at hl 0 rfl) ?_
    refine tl_g0_5 (pc := 6) C hc3 hP lk0 dX3_ledger_6 ?_
    refine lv_icmp_ge (pc := 9) (tgt := 22) hx hb dX3_ledger_9 (by decide) (fun c2 => ?_) (fun c2 => ?_)
    · replace h := (if_pos c2).symm.trans h
      refine lv_bipush (pc := 22) (v := (-2)) hx hb dX3_ledger_22 (by decide) ?_
      exact tl_Ripr (pc := 24) C h hP hS dX3_ledger_24
    · replace h := (if_neg c2).symm.trans h
      refine lv_iload_n (pc := 12) hx hb dX3_ledger_12 rfl (lv_at hl 2 rfl) ?_
      refine lv_if_lt (pc := 13) (tgt := 22) hx hb dX3_ledger_13 (by decide) (fun c3 => ?_) (fun c3 => ?_)
      · replace h := (if_pos c3).symm.trans h
        refine lv_bipush (pc := 22) (v := (-2)) hx hb dX3_ledger_22 (by decide) ?_
        exact tl_Ripr (pc := 24) C h hP hS dX3_ledger_24
      · replace h := (if_neg c3).symm.trans h
        refine lv_iload_n (pc := 16) hx hb dX3_ledger_16 rfl (lv_at hl 2 rfl) ?_
        refine lv_bipush (pc := 17) (v := 9) hx hb dX3_ledger_17 (by decide) ?_
        refine lv_icmp_lt (pc := 19) (tgt := 25) hx hb dX3_ledger_19 (by decide) (fun c4 => ?_) (fun c4 => ?_)
        · replace h := (if_pos c4).symm.trans h
          refine lv_aload_n (pc := 25) hx hb dX3_ledger_25 rfl (lv_at hl 0 rfl) ?_
          refine tl_g0_4 (pc := 26) C hc3 hP lk1 dX3_ledger_26 ?_
          refine lv_iload_n (pc := 29) hx hb dX3_ledger_29 rfl (lv_at hl 1 rfl) ?_
          refine lv_bipush (pc := 30) (v := 9) hx hb dX3_ledger_30 (by decide) ?_
          refine lv_imul (pc := 32) hx hb dX3_ledger_32 ?_
          refine lv_iload_n (pc := 33) hx hb dX3_ledger_33 rfl (lv_at hl 2 rfl) ?_
          refine lv_iadd (pc := 34) hx hb dX3_ledger_34 ?_
          obtain ⟨g5, h⟩ := tl_gd h
          refine tl_ald (pc := 35) C hP (tl_a33 g) g5 dX3_ledger_35 ?_
          exact tl_Ripr (pc := 36) C h hP hS dX3_ledger_36
        · replace h := (if_neg c4).symm.trans h
          refine lv_bipush (pc := 22) (v := (-2)) hx hb dX3_ledger_22 (by decide) ?_
          exact tl_Ripr (pc := 24) C h hP hS dX3_ledger_24
theorem caX3_ledger {p : Program} {l : Launch} {e : Env} {R : Room} {s : State} {m : MethodId} {args : Array Value} {below : List Frame} {meth : Method} {c : Code} {H : Heap} {locs : List Loc} {Q : State → Prop} {cc : ByteArray} {pc : Nat} {ls : Array Slot} {rest : List Value} {g : tl_G} {σ : tl_St} {H0 : Heap} {nL : Nat} {own : String} {ret : Option FieldType} {index : Nat} (C : tl_C p s m meth c cc nL own ret g) {Ts : List Cond} (hts : ∀ w ∈ Ts, w.before args s = true) (hP : va_P g.1 vwCl (tl_W g σ) H) (hS : va_S (tl_A g) H0 H locs) {a1 : Int32} {a2 : Int32} {ro : Int32} (h : fX3_ledger σ a1 a2 = some ro) (hG : GoodIn Ts (wsV own index RX3 yX3_ledger wsX3_ledger)) (hR : 0 + 1 ≤ R.frames ∧ 8 + (3 + 11) + 0 ≤ R.locals) (hls : ls.size = nL) (hrm : (rest.map fun v => v.category).sum ≤ 8) (hdg : decode cc pc = .ok (.invokevirtual index, 3)) (kk : ∀ (H1 : Heap) (locs1 : List Loc), va_P g.1 vwCl (tl_W g σ) H1 → va_S (tl_A g) H0 H1 locs1 → W p l e R s m args below meth c H1 locs1 0 0 Q (F0 m (pc + 3) ls (.int ro :: rest))) : W p l e R s m args below meth c H locs 0 0 Q (F0 m pc ls (.int a2 :: .int a1 :: .ref (tl_ad g 0) :: rest)) :=
  tl_goi (tl_callV C hts hP (okX3_ledger l g C.2.2.2.2.2.2.2 σ a1 a2 ro h) rfl rfl rfl (n := 2) (by decide +kernel) rfl (ci := 3) rfl (tl_k0 g σ) hG hR hls rfl hrm hdg) hS kk
abbrev rX3_wipe : Room := { frames := 0, cells := 0, slots := 0, locals := 0 }
set_option maxHeartbeats 4000000 in
set_option maxRecDepth 100000 in
theorem okX3_wipe (l : Launch) (g : tl_G) (hI : tl_I g) (σ : tl_St) (ro : Int32) (σo : tl_St) (h : fX3_wipe σ = (ro, σo)) : Met l yX3_wipe wsX3_wipe rX3_wipe (va_Pc [.ref (tl_ad g 0)] (tl_Pre g σ)) (tl_Qi g ro σo) 0 0 (tl_A g) := by
  refine tl_enter (cc := cX3_wipe) (maxL := 2) (ret := (some .int)) (own := RX3) hI (by decide) rfl rfl (Nat.le_of_ble_eq_true rfl) ?_
  intro p e s m below meth c C hts H locs hP hS ls hl
  have hx := C.1
  have hb := C.2.1
  have hl : lv_has ls 2 [(0, .ref (tl_ad g 0))] := hl
  have hc3 : ∀ w ∈ u_ws RX3 TX3 13, w.before [.ref (tl_ad g 0)].toArray s = true := fun w hw => hts w (List.mem_cons_of_mem _ (List.mem_append_right _ hw))
  have lk0 : (Cond.fieldLink RX3 131 "ThriftLock" "turnsKept" "I").before [.ref (tl_ad g 0)].toArray s = true := hts _ (List.mem_cons_of_mem _ (List.mem_append_left _ (List.mem_of_getElem? (i := 0) rfl)))
  unfold fX3_wipe at h
  refine lv_aload_n (pc := 0) hx hb dX3_wipe_0 rfl (lv_at hl 0 rfl) ?_
  refine tl_g0_5 (pc := 1) C hc3 hP lk0 dX3_wipe_1 ?_
  obtain ⟨x1, ex1, h⟩ := tl_nm h
  refine tl_ti ex1 ?_
  refine lv_istore_n (pc := 4) (lv' := [(1, .int x1), (0, .ref (tl_ad g 0))]) hx hb dX3_wipe_4 rfl hl (by decide) rfl (fun ls hl => ?_)
  refine lv_aload_n (pc := 5) hx hb dX3_wipe_5 rfl (lv_at hl 1 rfl) ?_
  refine lv_iconst (pc := 6) (v := 0) hx hb dX3_wipe_6 (by decide) ?_
  obtain ⟨σ2, eσ2, h⟩ := tl_nm h
  refine tl_s0_5 (pc := 7) C hc3 hP hS eσ2 lk0 dX3_wipe_7 (fun H locs hP hS => ?_)
  refine lv_iload_n (pc := 10) hx hb dX3_wipe_10 rfl (lv_at hl 0 rfl) ?_
  exact tl_Ritw (pc := 11) C h hP hS dX3_wipe_11
theorem caX3_wipe {p : Program} {l : Launch} {e : Env} {R : Room} {s : State} {m : MethodId} {args : Array Value} {below : List Frame} {meth : Method} {c : Code} {H : Heap} {locs : List Loc} {Q : State → Prop} {cc : ByteArray} {pc : Nat} {ls : Array Slot} {rest : List Value} {g : tl_G} {σ : tl_St} {H0 : Heap} {nL : Nat} {own : String} {ret : Option FieldType} {index : Nat} (C : tl_C p s m meth c cc nL own ret g) {Ts : List Cond} (hts : ∀ w ∈ Ts, w.before args s = true) (hP : va_P g.1 vwCl (tl_W g σ) H) (hS : va_S (tl_A g) H0 H locs) {ro : Int32} {σo : tl_St} (h : fX3_wipe σ = (ro, σo)) (hG : GoodIn Ts (wsV own index RX3 yX3_wipe wsX3_wipe)) (hR : 0 + 1 ≤ R.frames ∧ 8 + (2 + 11) + 0 ≤ R.locals) (hls : ls.size = nL) (hrm : (rest.map fun v => v.category).sum ≤ 8) (hdg : decode cc pc = .ok (.invokevirtual index, 3)) (kk : ∀ (H1 : Heap) (locs1 : List Loc), va_P g.1 vwCl (tl_W g σo) H1 → va_S (tl_A g) H0 H1 locs1 → W p l e R s m args below meth c H1 locs1 0 0 Q (F0 m (pc + 3) ls (.int ro :: rest))) : W p l e R s m args below meth c H locs 0 0 Q (F0 m pc ls (.ref (tl_ad g 0) :: rest)) :=
  tl_goi (tl_callV C hts hP (okX3_wipe l g C.2.2.2.2.2.2.2 σ ro σo h) rfl rfl rfl (n := 0) (by decide +kernel) rfl (ci := 3) rfl (tl_k0 g σ) hG hR hls rfl hrm hdg) hS kk
abbrev rX3_total : Room := { frames := 1, cells := 0, slots := 0, locals := 22 }
set_option maxHeartbeats 4000000 in
set_option maxRecDepth 100000 in
theorem okX3_total (l : Launch) (g : tl_G) (hI : tl_I g) (σ : tl_St) (a1 : Int32) (ro : Int32) (h : fX3_total σ a1 = some ro) : Met l yX3_total wsX3_total rX3_total (va_Pc [.ref (tl_ad g 0), .int a1] (tl_Pre g σ)) (tl_Qi g ro σ) 0 0 (tl_A g) := by
  refine tl_enter (cc := cX3_total) (maxL := 2) (ret := (some .int)) (own := RX3) hI (by decide) rfl rfl (Nat.le_of_ble_eq_true rfl) ?_
  intro p e s m below meth c C hts H locs hP hS ls hl
  have hx := C.1
  have hb := C.2.1
  have hl : lv_has ls 2 [(0, .ref (tl_ad g 0)), (1, .int a1)] := hl
  have hc3 : ∀ w ∈ u_ws RX3 TX3 13, w.before [.ref (tl_ad g 0), .int a1].toArray s = true := fun w hw => hts w (List.mem_cons_of_mem _ (List.mem_append_left _ (List.mem_append_right _ hw)))
  have lk0 : (Cond.fieldLink RX3 143 "ThriftLock" "drawnEver" "I").before [.ref (tl_ad g 0), .int a1].toArray s = true := hts _ (List.mem_cons_of_mem _ (List.mem_append_left _ (List.mem_append_left _ (List.mem_of_getElem? (i := 0) rfl))))
  have lk1 : (Cond.fieldLink RX3 146 "ThriftLock" "lostEver" "I").before [.ref (tl_ad g 0), .int a1].toArray s = true := hts _ (List.mem_cons_of_mem _ (List.mem_append_left _ (List.mem_append_left _ (List.mem_of_getElem? (i := 1) rfl))))
  have lk2 : (Cond.fieldLink RX3 149 "ThriftLock" "leakedEver" "I").before [.ref (tl_ad g 0), .int a1].toArray s = true := hts _ (List.mem_cons_of_mem _ (List.mem_append_left _ (List.mem_append_left _ (List.mem_of_getElem? (i := 2) rfl))))
  have lk3 : (Cond.fieldLink RX3 10 "ThriftLock" "water" "LThriftLock$Water;").before [.ref (tl_ad g 0), .int a1].toArray s = true := hts _ (List.mem_cons_of_mem _ (List.mem_append_left _ (List.mem_append_left _ (List.mem_of_getElem? (i := 3) rfl))))
  have lk4 : (Cond.fieldLink RX3 155 "ThriftLock" "turnsEver" "I").before [.ref (tl_ad g 0), .int a1].toArray s = true := hts _ (List.mem_cons_of_mem _ (List.mem_append_left _ (List.mem_append_left _ (List.mem_of_getElem? (i := 4) rfl))))
  unfold fX3_total at h
  refine lv_iload_n (pc := 0) hx hb dX3_total_0 rfl (lv_at hl 1 rfl) ?_
  by_cases c1 : a1 = 0
  · replace h := (if_pos c1).symm.trans h
    refine tl_swIn (pc := 1) (tgt := 36) hx hb (kv := 0) c1 dX3_total_1 (by decide) (by decide) rfl (by decide) ?_
    refine lv_aload_n (pc := 36) hx hb dX3_total_36 rfl (lv_at hl 0 rfl) ?_
    refine tl_g0_7 (pc := 37) C hc3 hP lk0 dX3_total_37 ?_
    exact tl_Ripr (pc := 40) C h hP hS dX3_total_40
  · replace h := (if_neg c1).symm.trans h
    by_cases c2 : a1 = 1
    · replace h := (if_pos c2).symm.trans h
      refine tl_swIn (pc := 1) (tgt := 41) hx hb (kv := 1) c2 dX3_total_1 (by decide) (by decide) rfl (by decide) ?_
      refine lv_aload_n (pc := 41) hx hb dX3_total_41 rfl (lv_at hl 0 rfl) ?_
      refine tl_g0_8 (pc := 42) C hc3 hP lk1 dX3_total_42 ?_
      exact tl_Ripr (pc := 45) C h hP hS dX3_total_45
    · replace h := (if_neg c2).symm.trans h
      by_cases c3 : a1 = 2
      · replace h := (if_pos c3).symm.trans h
        refine tl_swIn (pc := 1) (tgt := 46) hx hb (kv := 2) c3 dX3_total_1 (by decide) (by decide) rfl (by decide) ?_
        refine lv_aload_n (pc := 46) hx hb dX3_total_46 rfl (lv_at hl 0 rfl) ?_
        refine tl_g0_9 (pc := 47) C hc3 hP lk2 dX3_total_47 ?_
        exact tl_Ripr (pc := 50) C h hP hS dX3_total_50
      · replace h := (if_neg c3).symm.trans h
        by_cases c4 : a1 = 3
        · replace h := (if_pos c4).symm.trans h
          refine tl_swIn (pc := 1) (tgt := 51) hx hb (kv := 3) c4 dX3_total_1 (by decide) (by decide) rfl (by decide) ?_
          refine lv_aload_n (pc := 51) hx hb dX3_total_51 rfl (lv_at hl 0 rfl) ?_
          refine tl_g0_0 (pc := 52) C hc3 hP lk3 dX3_total_52 ?_
          obtain ⟨r5, er5, h⟩ := tl_o1s h
          refine caX2_heldInAll (pc := 55) C hts hP hS tl_W1 er5 gX3_total_X2_heldInAll ⟨Nat.le_of_ble_eq_true rfl, Nat.le_of_ble_eq_true rfl⟩ hl.1 (Nat.le_of_ble_eq_true rfl) dX3_total_55 (fun H locs hP hS => ?_)
          exact tl_Ripr (pc := 58) C h hP hS dX3_total_58
        · replace h := (if_neg c4).symm.trans h
          by_cases c6 : a1 = 4
          · replace h := (if_pos c6).symm.trans h
            refine tl_swIn (pc := 1) (tgt := 59) hx hb (kv := 4) c6 dX3_total_1 (by decide) (by decide) rfl (by decide) ?_
            refine lv_aload_n (pc := 59) hx hb dX3_total_59 rfl (lv_at hl 0 rfl) ?_
            refine tl_g0_6 (pc := 60) C hc3 hP lk4 dX3_total_60 ?_
            exact tl_Ripr (pc := 63) C h hP hS dX3_total_63
          · replace h := (if_neg c6).symm.trans h
            have hsw : (a1).toInt < 0 ∨ 4 < (a1).toInt := by
              have n0 := tl_ne (k := 0) c1 (by decide) (by decide)
              have n1 := tl_ne (k := 1) c2 (by decide) (by decide)
              have n2 := tl_ne (k := 2) c3 (by decide) (by decide)
              have n3 := tl_ne (k := 3) c4 (by decide) (by decide)
              have n4 := tl_ne (k := 4) c6 (by decide) (by decide)
              omega
            refine lv_tableOut (pc := 1) (tgt := 64) hx hb dX3_total_1 hsw (by decide) ?_
            refine lv_bipush (pc := 64) (v := (-2)) hx hb dX3_total_64 (by decide) ?_
            exact tl_Ripr (pc := 66) C h hP hS dX3_total_66
theorem caX3_total {p : Program} {l : Launch} {e : Env} {R : Room} {s : State} {m : MethodId} {args : Array Value} {below : List Frame} {meth : Method} {c : Code} {H : Heap} {locs : List Loc} {Q : State → Prop} {cc : ByteArray} {pc : Nat} {ls : Array Slot} {rest : List Value} {g : tl_G} {σ : tl_St} {H0 : Heap} {nL : Nat} {own : String} {ret : Option FieldType} {index : Nat} (C : tl_C p s m meth c cc nL own ret g) {Ts : List Cond} (hts : ∀ w ∈ Ts, w.before args s = true) (hP : va_P g.1 vwCl (tl_W g σ) H) (hS : va_S (tl_A g) H0 H locs) {a1 : Int32} {ro : Int32} (h : fX3_total σ a1 = some ro) (hG : GoodIn Ts (wsV own index RX3 yX3_total wsX3_total)) (hR : 1 + 1 ≤ R.frames ∧ 8 + (2 + 11) + 22 ≤ R.locals) (hls : ls.size = nL) (hrm : (rest.map fun v => v.category).sum ≤ 8) (hdg : decode cc pc = .ok (.invokevirtual index, 3)) (kk : ∀ (H1 : Heap) (locs1 : List Loc), va_P g.1 vwCl (tl_W g σ) H1 → va_S (tl_A g) H0 H1 locs1 → W p l e R s m args below meth c H1 locs1 0 0 Q (F0 m (pc + 3) ls (.int ro :: rest))) : W p l e R s m args below meth c H locs 0 0 Q (F0 m pc ls (.int a1 :: .ref (tl_ad g 0) :: rest)) :=
  tl_goi (tl_callV C hts hP (okX3_total l g C.2.2.2.2.2.2.2 σ a1 ro h) rfl rfl rfl (n := 1) (by decide +kernel) rfl (ci := 3) rfl (tl_k0 g σ) hG hR hls rfl hrm hdg) hS kk
abbrev rX3_tryTurn : Room := { frames := 3, cells := 0, slots := 0, locals := 71 }
set_option maxHeartbeats 4000000 in
set_option maxRecDepth 100000 in
theorem okX3_tryTurn (l : Launch) (g : tl_G) (hI : tl_I g) (σ : tl_St) (σo : tl_St) (h : fX3_tryTurn σ = some σo) : Met l yX3_tryTurn wsX3_tryTurn rX3_tryTurn (va_Pc [.ref (tl_ad g 0)] (tl_Pre g σ)) (tl_Qv g σo) 0 0 (tl_A g) := by
  refine tl_enter (cc := cX3_tryTurn) (maxL := 1) (ret := none) (own := RX3) hI (by decide) rfl rfl (Nat.le_of_ble_eq_true rfl) ?_
  intro p e s m below meth c C hts H locs hP hS ls hl
  have hx := C.1
  have hb := C.2.1
  have hl : lv_has ls 1 [(0, .ref (tl_ad g 0))] := hl
  have hc3 : ∀ w ∈ u_ws RX3 TX3 13, w.before [.ref (tl_ad g 0)].toArray s = true := fun w hw => hts w (List.mem_cons_of_mem _ (List.mem_append_left _ (List.mem_append_right _ hw)))
  have lk0 : (Cond.fieldLink RX3 16 "ThriftLock" "trial" "LThriftLock$Water;").before [.ref (tl_ad g 0)].toArray s = true := hts _ (List.mem_cons_of_mem _ (List.mem_append_left _ (List.mem_append_left _ (List.mem_append_left _ (List.mem_of_getElem? (i := 0) rfl)))))
  have lk1 : (Cond.fieldLink RX3 10 "ThriftLock" "water" "LThriftLock$Water;").before [.ref (tl_ad g 0)].toArray s = true := hts _ (List.mem_cons_of_mem _ (List.mem_append_left _ (List.mem_append_left _ (List.mem_append_left _ (List.mem_of_getElem? (i := 1) rfl)))))
  unfold fX3_tryTurn at h
  refine lv_aload_n (pc := 0) hx hb dX3_tryTurn_0 rfl (lv_at hl 0 rfl) ?_
  refine tl_g0_1 (pc := 1) C hc3 hP lk0 dX3_tryTurn_1 ?_
  refine lv_aload_n (pc := 4) hx hb dX3_tryTurn_4 rfl (lv_at hl 0 rfl) ?_
  refine tl_g0_0 (pc := 5) C hc3 hP lk1 dX3_tryTurn_5 ?_
  obtain ⟨σ1, eσ1, h⟩ := tl_o1s h
  refine caX2_becomeLike (pc := 8) C hts hP hS tl_W10 tl_W1 eσ1 gX3_tryTurn_X2_becomeLike ⟨Nat.le_of_ble_eq_true rfl, Nat.le_of_ble_eq_true rfl⟩ hl.1 (Nat.le_of_ble_eq_true rfl) dX3_tryTurn_8 (fun H locs hP hS => ?_)
  refine lv_aload_n (pc := 11) hx hb dX3_tryTurn_11 rfl (lv_at hl 0 rfl) ?_
  refine tl_g0_1 (pc := 12) C hc3 hP lk0 dX3_tryTurn_12 ?_
  obtain ⟨σ2, eσ2, h⟩ := tl_o1s h
  refine caX2_makeTurn (pc := 15) C hts hP hS tl_W10 eσ2 gX3_tryTurn_X2_makeTurn ⟨Nat.le_of_ble_eq_true rfl, Nat.le_of_ble_eq_true rfl⟩ hl.1 (Nat.le_of_ble_eq_true rfl) dX3_tryTurn_15 (fun H locs hP hS => ?_)
  exact tl_Rvpw (pc := 18) C h hP hS dX3_tryTurn_18
theorem caX3_tryTurn {p : Program} {l : Launch} {e : Env} {R : Room} {s : State} {m : MethodId} {args : Array Value} {below : List Frame} {meth : Method} {c : Code} {H : Heap} {locs : List Loc} {Q : State → Prop} {cc : ByteArray} {pc : Nat} {ls : Array Slot} {rest : List Value} {g : tl_G} {σ : tl_St} {H0 : Heap} {nL : Nat} {own : String} {ret : Option FieldType} {index : Nat} (C : tl_C p s m meth c cc nL own ret g) {Ts : List Cond} (hts : ∀ w ∈ Ts, w.before args s = true) (hP : va_P g.1 vwCl (tl_W g σ) H) (hS : va_S (tl_A g) H0 H locs) {σo : tl_St} (h : fX3_tryTurn σ = some σo) (hG : GoodIn Ts (wsV own index RX3 yX3_tryTurn wsX3_tryTurn)) (hR : 3 + 1 ≤ R.frames ∧ 8 + (1 + 11) + 71 ≤ R.locals) (hls : ls.size = nL) (hrm : (rest.map fun v => v.category).sum ≤ 8) (hdg : decode cc pc = .ok (.invokevirtual index, 3)) (kk : ∀ (H1 : Heap) (locs1 : List Loc), va_P g.1 vwCl (tl_W g σo) H1 → va_S (tl_A g) H0 H1 locs1 → W p l e R s m args below meth c H1 locs1 0 0 Q (F0 m (pc + 3) ls (rest))) : W p l e R s m args below meth c H locs 0 0 Q (F0 m pc ls (.ref (tl_ad g 0) :: rest)) :=
  tl_gov (tl_callV C hts hP (okX3_tryTurn l g C.2.2.2.2.2.2.2 σ σo h) rfl rfl rfl (n := 0) (by decide +kernel) rfl (ci := 3) rfl (tl_k0 g σ) hG hR hls rfl hrm hdg) hS kk
abbrev rX3_step : Room := { frames := 4, cells := 0, slots := 0, locals := 91 }
set_option maxHeartbeats 4000000 in
set_option maxRecDepth 100000 in
theorem okX3_step (l : Launch) (g : tl_G) (hI : tl_I g) (σ : tl_St) (a1 : Int32) (ro : Int32) (σo : tl_St) (h : fX3_step σ a1 = some (ro, σo)) : Met l yX3_step wsX3_step rX3_step (va_Pc [.ref (tl_ad g 0), .int a1] (tl_Pre g σ)) (tl_Qi g ro σo) 0 0 (tl_A g) := by
  refine tl_enter (cc := cX3_step) (maxL := 2) (ret := (some .int)) (own := RX3) hI (by decide) rfl rfl (Nat.le_of_ble_eq_true rfl) ?_
  intro p e s m below meth c C hts H locs hP hS ls hl
  have hx := C.1
  have hb := C.2.1
  have hl : lv_has ls 2 [(0, .ref (tl_ad g 0)), (1, .int a1)] := hl
  have hc2 : ∀ w ∈ u_ws RX2 TX2 14, w.before [.ref (tl_ad g 0), .int a1].toArray s = true := fun w hw => hts w (List.mem_cons_of_mem _ (List.mem_append_right _ hw))
  have hc3 : ∀ w ∈ u_ws RX3 TX3 13, w.before [.ref (tl_ad g 0), .int a1].toArray s = true := fun w hw => hts w (List.mem_cons_of_mem _ (List.mem_append_left _ (List.mem_append_right _ hw)))
  have lk0 : (Cond.fieldLink RX3 10 "ThriftLock" "water" "LThriftLock$Water;").before [.ref (tl_ad g 0), .int a1].toArray s = true := hts _ (List.mem_cons_of_mem _ (List.mem_append_left _ (List.mem_append_left _ (List.mem_append_left _ (List.mem_of_getElem? (i := 0) rfl)))))
  have lk1 : (Cond.fieldLink RX3 41 "ThriftLock$Water" "fullAt" "I").before [.ref (tl_ad g 0), .int a1].toArray s = true := hts _ (List.mem_cons_of_mem _ (List.mem_append_left _ (List.mem_append_left _ (List.mem_append_left _ (List.mem_of_getElem? (i := 1) rfl)))))
  have lk2 : (Cond.fieldLink RX3 16 "ThriftLock" "trial" "LThriftLock$Water;").before [.ref (tl_ad g 0), .int a1].toArray s = true := hts _ (List.mem_cons_of_mem _ (List.mem_append_left _ (List.mem_append_left _ (List.mem_append_left _ (List.mem_of_getElem? (i := 2) rfl)))))
  have lk3 : (Cond.fieldLink RX3 174 "ThriftLock$Water" "steps" "[I").before [.ref (tl_ad g 0), .int a1].toArray s = true := hts _ (List.mem_cons_of_mem _ (List.mem_append_left _ (List.mem_append_left _ (List.mem_append_left _ (List.mem_of_getElem? (i := 3) rfl)))))
  unfold fX3_step at h
  refine lv_iload_n (pc := 0) hx hb dX3_step_0 rfl (lv_at hl 1 rfl) ?_
  refine lv_iconst (pc := 1) (v := (-1)) hx hb dX3_step_1 (by decide) ?_
  refine lv_icmp_lt (pc := 2) (tgt := 11) hx hb dX3_step_2 (by decide) (fun c1 => ?_) (fun c1 => ?_)
  · replace h := (if_pos c1).symm.trans h
    refine lv_bipush (pc := 11) (v := (-2)) hx hb dX3_step_11 (by decide) ?_
    exact tl_Ripw (pc := 13) C h hP hS dX3_step_13
  · replace h := (if_neg c1).symm.trans h
    refine lv_iload_n (pc := 5) hx hb dX3_step_5 rfl (lv_at hl 1 rfl) ?_
    refine lv_bipush (pc := 6) (v := 60) hx hb dX3_step_6 (by decide) ?_
    refine lv_icmp_lt (pc := 8) (tgt := 14) hx hb dX3_step_8 (by decide) (fun c2 => ?_) (fun c2 => ?_)
    · replace h := (if_pos c2).symm.trans h
      refine lv_iload_n (pc := 14) hx hb dX3_step_14 rfl (lv_at hl 1 rfl) ?_
      refine lv_iconst (pc := 15) (v := (-1)) hx hb dX3_step_15 (by decide) ?_
      refine lv_icmp_ne (pc := 16) (tgt := 27) hx hb dX3_step_16 (by decide) (fun c3 => ?_) (fun c3 => ?_)
      · replace h := (if_neg c3).symm.trans h
        refine lv_iload_n (pc := 27) hx hb dX3_step_27 rfl (lv_at hl 1 rfl) ?_
        refine lv_aload_n (pc := 28) hx hb dX3_step_28 rfl (lv_at hl 0 rfl) ?_
        refine tl_g0_0 (pc := 29) C hc3 hP lk0 dX3_step_29 ?_
        refine tl_gW_0 (pc := 32) C hc2 hP tl_W1 lk1 dX3_step_32 ?_
        refine lv_icmp_lt (pc := 35) (tgt := 40) hx hb dX3_step_35 (by decide) (fun c4 => ?_) (fun c4 => ?_)
        · replace h := (if_pos c4).symm.trans h
          refine lv_aload_n (pc := 40) hx hb dX3_step_40 rfl (lv_at hl 0 rfl) ?_
          obtain ⟨σ5, eσ5, h⟩ := tl_o1s h
          refine caX3_tryTurn (pc := 41) C hts hP hS eσ5 gX3_step_X3_tryTurn ⟨Nat.le_of_ble_eq_true rfl, Nat.le_of_ble_eq_true rfl⟩ hl.1 (Nat.le_of_ble_eq_true rfl) dX3_step_41 (fun H locs hP hS => ?_)
          refine lv_aload_n (pc := 44) hx hb dX3_step_44 rfl (lv_at hl 0 rfl) ?_
          refine tl_g0_1 (pc := 45) C hc3 hP lk2 dX3_step_45 ?_
          refine tl_gW_10 (pc := 48) C hc2 hP tl_W10 lk3 dX3_step_48 ?_
          refine lv_iload_n (pc := 51) hx hb dX3_step_51 rfl (lv_at hl 1 rfl) ?_
          obtain ⟨g6, h⟩ := tl_gd h
          refine tl_ald (pc := 52) C hP (tl_aW7 tl_W10 g) g6 dX3_step_52 ?_
          exact tl_Ripw (pc := 53) C h hP hS dX3_step_53
        · replace h := (if_neg c4).symm.trans h
          refine lv_iconst (pc := 38) (v := (-1)) hx hb dX3_step_38 (by decide) ?_
          exact tl_Ripw (pc := 39) C h hP hS dX3_step_39
      · replace h := (if_pos c3).symm.trans h
        refine lv_aload_n (pc := 19) hx hb dX3_step_19 rfl (lv_at hl 0 rfl) ?_
        refine tl_g0_0 (pc := 20) C hc3 hP lk0 dX3_step_20 ?_
        refine tl_gW_0 (pc := 23) C hc2 hP tl_W1 lk1 dX3_step_23 ?_
        exact tl_Ripw (pc := 26) C h hP hS dX3_step_26
    · replace h := (if_neg c2).symm.trans h
      refine lv_bipush (pc := 11) (v := (-2)) hx hb dX3_step_11 (by decide) ?_
      exact tl_Ripw (pc := 13) C h hP hS dX3_step_13
theorem caX3_step {p : Program} {l : Launch} {e : Env} {R : Room} {s : State} {m : MethodId} {args : Array Value} {below : List Frame} {meth : Method} {c : Code} {H : Heap} {locs : List Loc} {Q : State → Prop} {cc : ByteArray} {pc : Nat} {ls : Array Slot} {rest : List Value} {g : tl_G} {σ : tl_St} {H0 : Heap} {nL : Nat} {own : String} {ret : Option FieldType} {index : Nat} (C : tl_C p s m meth c cc nL own ret g) {Ts : List Cond} (hts : ∀ w ∈ Ts, w.before args s = true) (hP : va_P g.1 vwCl (tl_W g σ) H) (hS : va_S (tl_A g) H0 H locs) {a1 : Int32} {ro : Int32} {σo : tl_St} (h : fX3_step σ a1 = some (ro, σo)) (hG : GoodIn Ts (wsV own index RX3 yX3_step wsX3_step)) (hR : 4 + 1 ≤ R.frames ∧ 8 + (2 + 11) + 91 ≤ R.locals) (hls : ls.size = nL) (hrm : (rest.map fun v => v.category).sum ≤ 8) (hdg : decode cc pc = .ok (.invokevirtual index, 3)) (kk : ∀ (H1 : Heap) (locs1 : List Loc), va_P g.1 vwCl (tl_W g σo) H1 → va_S (tl_A g) H0 H1 locs1 → W p l e R s m args below meth c H1 locs1 0 0 Q (F0 m (pc + 3) ls (.int ro :: rest))) : W p l e R s m args below meth c H locs 0 0 Q (F0 m pc ls (.int a1 :: .ref (tl_ad g 0) :: rest)) :=
  tl_goi (tl_callV C hts hP (okX3_step l g C.2.2.2.2.2.2.2 σ a1 ro σo h) rfl rfl rfl (n := 1) (by decide +kernel) rfl (ci := 3) rfl (tl_k0 g σ) hG hR hls rfl hrm hdg) hS kk
abbrev rX3_ahead : Room := { frames := 4, cells := 0, slots := 0, locals := 96 }
set_option maxHeartbeats 4000000 in
set_option maxRecDepth 100000 in
theorem okX3_ahead (l : Launch) (g : tl_G) (hI : tl_I g) (σ : tl_St) (a1 : Int32) (ro : Int32) (σo : tl_St) (h : fX3_ahead σ a1 = some (ro, σo)) : Met l yX3_ahead wsX3_ahead rX3_ahead (va_Pc [.ref (tl_ad g 0), .int a1] (tl_Pre g σ)) (tl_Qi g ro σo) 0 0 (tl_A g) := by
  refine tl_enter (cc := cX3_ahead) (maxL := 2) (ret := (some .int)) (own := RX3) hI (by decide) rfl rfl (Nat.le_of_ble_eq_true rfl) ?_
  intro p e s m below meth c C hts H locs hP hS ls hl
  have hx := C.1
  have hb := C.2.1
  have hl : lv_has ls 2 [(0, .ref (tl_ad g 0)), (1, .int a1)] := hl
  have hc3 : ∀ w ∈ u_ws RX3 TX3 13, w.before [.ref (tl_ad g 0), .int a1].toArray s = true := fun w hw => hts w (List.mem_cons_of_mem _ (List.mem_append_left _ (List.mem_append_right _ hw)))
  have lk0 : (Cond.fieldLink RX3 16 "ThriftLock" "trial" "LThriftLock$Water;").before [.ref (tl_ad g 0), .int a1].toArray s = true := hts _ (List.mem_cons_of_mem _ (List.mem_append_left _ (List.mem_append_left _ (List.mem_append_left _ (List.mem_of_getElem? (i := 0) rfl)))))
  have lk1 : (Cond.fieldLink RX3 10 "ThriftLock" "water" "LThriftLock$Water;").before [.ref (tl_ad g 0), .int a1].toArray s = true := hts _ (List.mem_cons_of_mem _ (List.mem_append_left _ (List.mem_append_left _ (List.mem_append_left _ (List.mem_of_getElem? (i := 1) rfl)))))
  have lk2 : (Cond.constant RX3 181 (1000000)).before [.ref (tl_ad g 0), .int a1].toArray s = true := hts _ (List.mem_cons_of_mem _ (List.mem_append_left _ (List.mem_append_left _ (List.mem_append_left _ (List.mem_of_getElem? (i := 2) rfl)))))
  unfold fX3_ahead at h
  refine lv_iload_n (pc := 0) hx hb dX3_ahead_0 rfl (lv_at hl 1 rfl) ?_
  refine lv_if_lt (pc := 1) (tgt := 10) hx hb dX3_ahead_1 (by decide) (fun c1 => ?_) (fun c1 => ?_)
  · replace h := (if_pos c1).symm.trans h
    refine lv_bipush (pc := 10) (v := (-2)) hx hb dX3_ahead_10 (by decide) ?_
    exact tl_Ripw (pc := 12) C h hP hS dX3_ahead_12
  · replace h := (if_neg c1).symm.trans h
    refine lv_iload_n (pc := 4) hx hb dX3_ahead_4 rfl (lv_at hl 1 rfl) ?_
    refine lv_bipush (pc := 5) (v := 40) hx hb dX3_ahead_5 (by decide) ?_
    refine lv_icmp_le (pc := 7) (tgt := 13) hx hb dX3_ahead_7 (by decide) (fun c2 => ?_) (fun c2 => ?_)
    · replace h := (if_pos c2).symm.trans h
      refine lv_aload_n (pc := 13) hx hb dX3_ahead_13 rfl (lv_at hl 0 rfl) ?_
      refine tl_g0_1 (pc := 14) C hc3 hP lk0 dX3_ahead_14 ?_
      refine lv_aload_n (pc := 17) hx hb dX3_ahead_17 rfl (lv_at hl 0 rfl) ?_
      refine tl_g0_0 (pc := 18) C hc3 hP lk1 dX3_ahead_18 ?_
      obtain ⟨σ3, eσ3, h⟩ := tl_o1s h
      refine caX2_becomeLike (pc := 21) C hts hP hS tl_W10 tl_W1 eσ3 gX3_ahead_X2_becomeLike ⟨Nat.le_of_ble_eq_true rfl, Nat.le_of_ble_eq_true rfl⟩ hl.1 (Nat.le_of_ble_eq_true rfl) dX3_ahead_21 (fun H locs hP hS => ?_)
      refine lv_aload_n (pc := 24) hx hb dX3_ahead_24 rfl (lv_at hl 0 rfl) ?_
      refine tl_g0_1 (pc := 25) C hc3 hP lk0 dX3_ahead_25 ?_
      refine lv_iload_n (pc := 28) hx hb dX3_ahead_28 rfl (lv_at hl 1 rfl) ?_
      refine lv_ldc (pc := 29) (v := 1000000) hx hb C.2.2.2.1 lk2 dX3_ahead_29 ?_
      obtain ⟨r4, σ5, er4, h⟩ := tl_o2s h
      refine caX2_drawnBy (pc := 31) C hts hP hS tl_W10 er4 gX3_ahead_X2_drawnBy ⟨Nat.le_of_ble_eq_true rfl, Nat.le_of_ble_eq_true rfl⟩ hl.1 (Nat.le_of_ble_eq_true rfl) dX3_ahead_31 (fun H locs hP hS => ?_)
      exact tl_Ripw (pc := 34) C h hP hS dX3_ahead_34
    · replace h := (if_neg c2).symm.trans h
      refine lv_bipush (pc := 10) (v := (-2)) hx hb dX3_ahead_10 (by decide) ?_
      exact tl_Ripw (pc := 12) C h hP hS dX3_ahead_12
theorem caX3_ahead {p : Program} {l : Launch} {e : Env} {R : Room} {s : State} {m : MethodId} {args : Array Value} {below : List Frame} {meth : Method} {c : Code} {H : Heap} {locs : List Loc} {Q : State → Prop} {cc : ByteArray} {pc : Nat} {ls : Array Slot} {rest : List Value} {g : tl_G} {σ : tl_St} {H0 : Heap} {nL : Nat} {own : String} {ret : Option FieldType} {index : Nat} (C : tl_C p s m meth c cc nL own ret g) {Ts : List Cond} (hts : ∀ w ∈ Ts, w.before args s = true) (hP : va_P g.1 vwCl (tl_W g σ) H) (hS : va_S (tl_A g) H0 H locs) {a1 : Int32} {ro : Int32} {σo : tl_St} (h : fX3_ahead σ a1 = some (ro, σo)) (hG : GoodIn Ts (wsV own index RX3 yX3_ahead wsX3_ahead)) (hR : 4 + 1 ≤ R.frames ∧ 8 + (2 + 11) + 96 ≤ R.locals) (hls : ls.size = nL) (hrm : (rest.map fun v => v.category).sum ≤ 8) (hdg : decode cc pc = .ok (.invokevirtual index, 3)) (kk : ∀ (H1 : Heap) (locs1 : List Loc), va_P g.1 vwCl (tl_W g σo) H1 → va_S (tl_A g) H0 H1 locs1 → W p l e R s m args below meth c H1 locs1 0 0 Q (F0 m (pc + 3) ls (.int ro :: rest))) : W p l e R s m args below meth c H locs 0 0 Q (F0 m pc ls (.int a1 :: .ref (tl_ad g 0) :: rest)) :=
  tl_goi (tl_callV C hts hP (okX3_ahead l g C.2.2.2.2.2.2.2 σ a1 ro σo h) rfl rfl rfl (n := 1) (by decide +kernel) rfl (ci := 3) rfl (tl_k0 g σ) hG hR hls rfl hrm hdg) hS kk
